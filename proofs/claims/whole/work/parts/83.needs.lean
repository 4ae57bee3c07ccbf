/-! the class: bags ordered for a day -/
def roomNo (f r : Nat → Int) : Prop := ∃ k : Nat, (k : Int) < f 0 ∧ 99 < f (11 + k) + r k * f (35 + k)
theorem dX7_startBags_0 : decode cX7_startBags 0 = .ok (.iconst 0, 1) := by decide +kernel
theorem dX7_startBags_1 : decode cX7_startBags 1 = .ok (.istore_n 2, 1) := by decide +kernel
theorem dX7_startBags_2 : decode cX7_startBags 2 = .ok (.iload_n 2, 1) := by decide +kernel
theorem dX7_startBags_3 : decode cX7_startBags 3 = .ok (.bipush 8, 2) := by decide +kernel
theorem dX7_startBags_5 : decode cX7_startBags 5 = .ok (.if_icmp .ge 33, 3) := by decide +kernel
theorem dX7_startBags_8 : decode cX7_startBags 8 = .ok (.aload_n 0, 1) := by decide +kernel
theorem dX7_startBags_9 : decode cX7_startBags 9 = .ok (.getfield 71, 3) := by decide +kernel
theorem dX7_startBags_12 : decode cX7_startBags 12 = .ok (.iload_n 2, 1) := by decide +kernel
theorem dX7_startBags_13 : decode cX7_startBags 13 = .ok (.iload_n 2, 1) := by decide +kernel
theorem dX7_startBags_14 : decode cX7_startBags 14 = .ok (.aload_n 0, 1) := by decide +kernel
theorem dX7_startBags_15 : decode cX7_startBags 15 = .ok (.getfield 10, 3) := by decide +kernel
theorem dX7_startBags_18 : decode cX7_startBags 18 = .ok (.getfield 103, 3) := by decide +kernel
theorem dX7_startBags_21 : decode cX7_startBags 21 = .ok (.iconst 1, 1) := by decide +kernel
theorem dX7_startBags_22 : decode cX7_startBags 22 = .ok (.isub, 1) := by decide +kernel
theorem dX7_startBags_23 : decode cX7_startBags 23 = .ok (.if_icmp .ne 7, 3) := by decide +kernel
theorem dX7_startBags_26 : decode cX7_startBags 26 = .ok (.iload_n 1, 1) := by decide +kernel
theorem dX7_startBags_27 : decode cX7_startBags 27 = .ok (.goto 4, 3) := by decide +kernel
theorem dX7_startBags_30 : decode cX7_startBags 30 = .ok (.iconst 0, 1) := by decide +kernel
theorem dX7_startBags_31 : decode cX7_startBags 31 = .ok (.iastore, 1) := by decide +kernel
theorem dX7_startBags_32 : decode cX7_startBags 32 = .ok (.iinc 2 1, 3) := by decide +kernel
theorem dX7_startBags_35 : decode cX7_startBags 35 = .ok (.goto (-33), 3) := by decide +kernel
theorem dX7_startBags_38 : decode cX7_startBags 38 = .ok (.return_, 1) := by decide +kernel
set_option maxHeartbeats 4000000 in
set_option maxRecDepth 100000 in
theorem m_X7_startBags (l : Launch) (q : Int) (mem : Mem) (hN : 1 ≤ mem 21 0 ∧ mem 21 0 ≤ 8) (hq : 0 ≤ q) : Ret shp l yX7_startBags cX7_startBags 3 none 0 [pR 20, pI q] mem (fun rv mv => rv = none ∧ (∀ c, c ≠ 213 → mv c = mem c) ∧ mv 213 = hdR (mem 21 0).toNat 0 q.toNat (fun i => if i < 8 then 0 else mem 213 i)) := by
  refine ret_of (by decide +kernel) (Nat.le_of_ble_eq_true rfl) (fun X hX F G => ?_)
  show Ok shp X 3 0 [(0, pR 20), (1, pI q)] [] mem
  refine ok_iconst F dX7_startBags_0 ?_
  refine ok_istore_n (lv' := [(2, pI 0), (0, pR 20), (1, pI q)]) F dX7_startBags_1 (by decide) rfl ?_
  have hL_2 : ∀ (n_2 : Nat) (k : Int) (m : Mem), (0 ≤ k ∧ k ≤ 8 ∧ (∀ c, c ≠ 213 → m c = mem c) ∧ ∀ i : Nat, m 213 i = if (i : Int) < k then (if (i : Int) = mem 21 0 - 1 then q else 0) else mem 213 i) → (8 - k).toNat = n_2 → Ok shp X 3 2 [(0, pR 20), (1, pI q), (2, pI k)] [] m := by
    intro n_2
    induction n_2 using Nat.strongRecOn with
    | _ n_2 ih_2 =>
      intro k m hI_2 hn_2
      obtain ⟨hk0, hk1, hF, hB⟩ := hI_2
      refine ok_iload_n F dX7_startBags_2 2 rfl ?_
      refine ok_bipush F dX7_startBags_3 rfl ?_
      refine ok_icmp_ge F 38 dX7_startBags_5 (by decide) (by omega) (by omega) (fun c_1 => ?_) (fun c_1 => ?_)
      · refine ok_vret F G dX7_startBags_38 ?_
        refine ⟨rfl, hF, ?_⟩
        funext i
        rw [hB i]
        unfold hdR
        by_cases y : i < 8
        · rw [if_pos (by omega)]
          by_cases z : i < (mem 21 0).toNat
          · rw [if_pos (show 0 ≤ i ∧ i < (mem 21 0).toNat by omega)]
            by_cases x : i = (mem 21 0).toNat - 1
            · rw [if_pos (by omega), if_pos x]; omega
            · rw [if_neg (by omega), if_neg x]
          · rw [if_neg (by omega), if_neg (by omega)]; show 0 = (if i < 8 then 0 else mem 213 i); rw [if_pos y]
        · rw [if_neg (by omega), if_neg (by omega)]; show mem 213 i = (if i < 8 then 0 else mem 213 i); rw [if_neg y]
      · refine ok_aload_n F dX7_startBags_8 0 rfl ?_
        refine ok_getr F dX7_startBags_9 kF_X7_71 sh_20 rfl ?_
        refine ok_iload_n F dX7_startBags_12 2 rfl ?_
        refine ok_iload_n F dX7_startBags_13 2 rfl ?_
        refine ok_aload_n F dX7_startBags_14 0 rfl ?_
        refine ok_getr F dX7_startBags_15 kF_X7_10 sh_20 rfl ?_
        refine ok_getf (v := mem 21 0) F dX7_startBags_18 kF_X7_103 sh_21 rfl (by rw [(hF 21 (by decide))] <;> rfl) ?_
        refine ok_iconst F dX7_startBags_21 ?_
        refine ok_isub F dX7_startBags_22 ?_
        refine ok_icmp_ne F 30 dX7_startBags_23 (by decide) (by omega) (by omega) (fun c_2 => ?_) (fun c_2 => ?_)
        · refine ok_iconst F dX7_startBags_30 ?_
          refine ok_iast F dX7_startBags_31 sh_213 (by first | decide | assumption) (by omega) (by omega) (fun m_3 e_4 => ?_)
          refine ok_iinc (lv' := [(2, pI (k + 1)), (0, pR 20), (1, pI q)]) F dX7_startBags_32 2 rfl (by decide) rfl ?_
          refine ok_goto F 2 dX7_startBags_35 (by decide) ?_
          refine ok_lvp [1, 2, 0] (lv' := [(0, pR 20), (1, pI q), (2, pI (k + 1))]) rfl ?_
          refine ih_2 _ ?_ (k + 1) m_3 ?_ rfl
          · omega
          · refine ⟨by omega, by omega, fun c hc => by rw [e_4, mset_nka hc]; exact hF c hc, fun i => ?_⟩
            rw [e_4]
            by_cases y : i = k.toNat
            · rw [y, mset_eq, if_pos (by omega)]
              first
                | (rw [if_pos (by omega)]; done)
                | (rw [if_neg (by omega)]; done)
            · rw [mset_ne (fun z => y z.2), hB i]
              by_cases z : (i : Int) < k
              · rw [if_pos z, if_pos (show (i : Int) < k + 1 by omega)]
              · rw [if_neg z, if_neg (show ¬ (i : Int) < k + 1 by omega)]
        · refine ok_iload_n F dX7_startBags_26 1 rfl ?_
          refine ok_goto F 31 dX7_startBags_27 (by decide) ?_
          refine ok_iast F dX7_startBags_31 sh_213 (by first | decide | assumption) (by omega) (by omega) (fun m_5 e_6 => ?_)
          refine ok_iinc (lv' := [(2, pI (k + 1)), (0, pR 20), (1, pI q)]) F dX7_startBags_32 2 rfl (by decide) rfl ?_
          refine ok_goto F 2 dX7_startBags_35 (by decide) ?_
          refine ok_lvp [1, 2, 0] (lv' := [(0, pR 20), (1, pI q), (2, pI (k + 1))]) rfl ?_
          refine ih_2 _ ?_ (k + 1) m_5 ?_ rfl
          · omega
          · refine ⟨by omega, by omega, fun c hc => by rw [e_6, mset_nka hc]; exact hF c hc, fun i => ?_⟩
            rw [e_6]
            by_cases y : i = k.toNat
            · rw [y, mset_eq, if_pos (by omega)]
              first
                | (rw [if_pos (by omega)]; done)
                | (rw [if_neg (by omega)]; done)
            · rw [mset_ne (fun z => y z.2), hB i]
              by_cases z : (i : Int) < k
              · rw [if_pos z, if_pos (show (i : Int) < k + 1 by omega)]
              · rw [if_neg z, if_neg (show ¬ (i : Int) < k + 1 by omega)]
  refine ok_lvp [1, 2, 0] (lv' := [(0, pR 20), (1, pI q), (2, pI 0)]) rfl ?_
  refine hL_2 _ 0 mem ?_ rfl
  exact ⟨by omega, by omega, fun _ _ => rfl, fun i => by rw [if_neg (by omega)]⟩
theorem dX7_hasRoomForBags_0 : decode cX7_hasRoomForBags 0 = .ok (.iconst 0, 1) := by decide +kernel
theorem dX7_hasRoomForBags_1 : decode cX7_hasRoomForBags 1 = .ok (.istore_n 1, 1) := by decide +kernel
theorem dX7_hasRoomForBags_2 : decode cX7_hasRoomForBags 2 = .ok (.iload_n 1, 1) := by decide +kernel
theorem dX7_hasRoomForBags_3 : decode cX7_hasRoomForBags 3 = .ok (.aload_n 0, 1) := by decide +kernel
theorem dX7_hasRoomForBags_4 : decode cX7_hasRoomForBags 4 = .ok (.getfield 10, 3) := by decide +kernel
theorem dX7_hasRoomForBags_7 : decode cX7_hasRoomForBags 7 = .ok (.getfield 103, 3) := by decide +kernel
theorem dX7_hasRoomForBags_10 : decode cX7_hasRoomForBags 10 = .ok (.if_icmp .ge 54, 3) := by decide +kernel
theorem dX7_hasRoomForBags_13 : decode cX7_hasRoomForBags 13 = .ok (.aload_n 0, 1) := by decide +kernel
theorem dX7_hasRoomForBags_14 : decode cX7_hasRoomForBags 14 = .ok (.getfield 65, 3) := by decide +kernel
theorem dX7_hasRoomForBags_17 : decode cX7_hasRoomForBags 17 = .ok (.iload_n 1, 1) := by decide +kernel
theorem dX7_hasRoomForBags_18 : decode cX7_hasRoomForBags 18 = .ok (.aload_n 0, 1) := by decide +kernel
theorem dX7_hasRoomForBags_19 : decode cX7_hasRoomForBags 19 = .ok (.getfield 10, 3) := by decide +kernel
theorem dX7_hasRoomForBags_22 : decode cX7_hasRoomForBags 22 = .ok (.getfield 133, 3) := by decide +kernel
theorem dX7_hasRoomForBags_25 : decode cX7_hasRoomForBags 25 = .ok (.iload_n 1, 1) := by decide +kernel
theorem dX7_hasRoomForBags_26 : decode cX7_hasRoomForBags 26 = .ok (.iaload, 1) := by decide +kernel
theorem dX7_hasRoomForBags_27 : decode cX7_hasRoomForBags 27 = .ok (.aload_n 0, 1) := by decide +kernel
theorem dX7_hasRoomForBags_28 : decode cX7_hasRoomForBags 28 = .ok (.getfield 71, 3) := by decide +kernel
theorem dX7_hasRoomForBags_31 : decode cX7_hasRoomForBags 31 = .ok (.iload_n 1, 1) := by decide +kernel
theorem dX7_hasRoomForBags_32 : decode cX7_hasRoomForBags 32 = .ok (.iaload, 1) := by decide +kernel
theorem dX7_hasRoomForBags_33 : decode cX7_hasRoomForBags 33 = .ok (.aload_n 0, 1) := by decide +kernel
theorem dX7_hasRoomForBags_34 : decode cX7_hasRoomForBags 34 = .ok (.getfield 10, 3) := by decide +kernel
theorem dX7_hasRoomForBags_37 : decode cX7_hasRoomForBags 37 = .ok (.getfield 173, 3) := by decide +kernel
theorem dX7_hasRoomForBags_40 : decode cX7_hasRoomForBags 40 = .ok (.iload_n 1, 1) := by decide +kernel
theorem dX7_hasRoomForBags_41 : decode cX7_hasRoomForBags 41 = .ok (.iaload, 1) := by decide +kernel
theorem dX7_hasRoomForBags_42 : decode cX7_hasRoomForBags 42 = .ok (.imul, 1) := by decide +kernel
theorem dX7_hasRoomForBags_43 : decode cX7_hasRoomForBags 43 = .ok (.iadd, 1) := by decide +kernel
theorem dX7_hasRoomForBags_44 : decode cX7_hasRoomForBags 44 = .ok (.iastore, 1) := by decide +kernel
theorem dX7_hasRoomForBags_45 : decode cX7_hasRoomForBags 45 = .ok (.aload_n 0, 1) := by decide +kernel
theorem dX7_hasRoomForBags_46 : decode cX7_hasRoomForBags 46 = .ok (.getfield 65, 3) := by decide +kernel
theorem dX7_hasRoomForBags_49 : decode cX7_hasRoomForBags 49 = .ok (.iload_n 1, 1) := by decide +kernel
theorem dX7_hasRoomForBags_50 : decode cX7_hasRoomForBags 50 = .ok (.iaload, 1) := by decide +kernel
theorem dX7_hasRoomForBags_51 : decode cX7_hasRoomForBags 51 = .ok (.bipush 100, 2) := by decide +kernel
theorem dX7_hasRoomForBags_53 : decode cX7_hasRoomForBags 53 = .ok (.if_icmp .lt 5, 3) := by decide +kernel
theorem dX7_hasRoomForBags_56 : decode cX7_hasRoomForBags 56 = .ok (.iconst 0, 1) := by decide +kernel
theorem dX7_hasRoomForBags_57 : decode cX7_hasRoomForBags 57 = .ok (.ireturn, 1) := by decide +kernel
theorem dX7_hasRoomForBags_58 : decode cX7_hasRoomForBags 58 = .ok (.iinc 1 1, 3) := by decide +kernel
theorem dX7_hasRoomForBags_61 : decode cX7_hasRoomForBags 61 = .ok (.goto (-59), 3) := by decide +kernel
theorem dX7_hasRoomForBags_64 : decode cX7_hasRoomForBags 64 = .ok (.iconst 1, 1) := by decide +kernel
theorem dX7_hasRoomForBags_65 : decode cX7_hasRoomForBags 65 = .ok (.ireturn, 1) := by decide +kernel
set_option maxHeartbeats 4000000 in
set_option maxRecDepth 100000 in
theorem m_X7_hasRoomForBags (l : Launch) (f : Nat → Int) (mem : Mem) (hRS : RS mem 21 f) (hG : GR f) (hB : ∀ k : Nat, (k : Int) < f 0 → 0 ≤ mem 213 k ∧ mem 213 k ≤ 4) : Ret shp l yX7_hasRoomForBags cX7_hasRoomForBags 2 (some .boolean) 0 [pR 20] mem (fun rv mv => ∃ z, rv = some (pI z) ∧ (∀ c, c ≠ 211 → mv c = mem c) ∧ (z = 1 ∧ (∀ k : Nat, (k : Int) < f 0 → mv 211 k = f (11 + k) + mem 213 k * f (35 + k) ∧ mv 211 k ≤ 99) ∨ z = 0 ∧ roomNo f (mem 213))) := by
  refine ret_of (by decide +kernel) (Nat.le_of_ble_eq_true rfl) (fun X hX F G => ?_)
  show Ok shp X 2 0 [(0, pR 20)] [] mem
  have he0 : mem 21 0 = f 0 := hRS.1
  have gb0 := hG.1
  have hTl : ∀ k : Nat, k < 8 → mem 23 k = f (11 + k) := fun k hk => hRS.2.2.1 1 (by omega) k hk
  have hBl : ∀ k : Nat, k < 8 → mem 26 k = f (35 + k) := fun k hk => hRS.2.2.1 4 (by omega) k hk
  have hT : ∀ k : Nat, k < 8 → 0 ≤ f (11 + k) ∧ f (11 + k) ≤ 99 := fun k hk => hG.2.2.2.2.2.1 0 (by omega) k hk
  have hBg : ∀ k : Nat, k < 8 → 0 ≤ f (35 + k) ∧ f (35 + k) ≤ 99 := fun k hk => hG.2.2.2.2.2.1 3 (by omega) k hk
  refine ok_iconst F dX7_hasRoomForBags_0 ?_
  refine ok_istore_n (lv' := [(1, pI 0), (0, pR 20)]) F dX7_hasRoomForBags_1 (by decide) rfl ?_
  have hL_2 : ∀ (n_2 : Nat) (k : Int) (m : Mem), (0 ≤ k ∧ k ≤ f 0 ∧ (∀ c, c ≠ 211 → m c = mem c) ∧ ∀ j : Nat, (j : Int) < k → m 211 j = f (11 + j) + mem 213 j * f (35 + j) ∧ m 211 j ≤ 99) → (f 0 - k).toNat = n_2 → Ok shp X 2 2 [(0, pR 20), (1, pI k)] [] m := by
    intro n_2
    induction n_2 using Nat.strongRecOn with
    | _ n_2 ih_2 =>
      intro k m hI_2 hn_2
      obtain ⟨hk0, hk1, hF, hW⟩ := hI_2
      refine ok_iload_n F dX7_hasRoomForBags_2 1 rfl ?_
      refine ok_aload_n F dX7_hasRoomForBags_3 0 rfl ?_
      refine ok_getr F dX7_hasRoomForBags_4 kF_X7_10 sh_20 rfl ?_
      refine ok_getf (v := mem 21 0) F dX7_hasRoomForBags_7 kF_X7_103 sh_21 rfl (by rw [(hF 21 (by decide))] <;> rfl) ?_
      refine ok_icmp_ge F 64 dX7_hasRoomForBags_10 (by decide) (by omega) (by omega) (fun c_1 => ?_) (fun c_1 => ?_)
      · refine ok_iconst F dX7_hasRoomForBags_64 ?_
        refine ok_zret F G dX7_hasRoomForBags_65 (by first | rfl | exact zb_nar) ?_
        exact ⟨_, rfl, hF, Or.inl ⟨rfl, fun j hj => hW j (by omega)⟩⟩
      · have a1 := hT k.toNat (by omega)
        have a2 := hBg k.toNat (by omega)
        have a3 := hB k.toNat (by omega)
        have a4 := mul_bd a3 a2
        have w1 := hTl k.toNat (by omega)
        have w2 := hBl k.toNat (by omega)
        rw [← w2] at a4
        refine ok_aload_n F dX7_hasRoomForBags_13 0 rfl ?_
        refine ok_getr F dX7_hasRoomForBags_14 kF_X7_65 sh_20 rfl ?_
        refine ok_iload_n F dX7_hasRoomForBags_17 1 rfl ?_
        refine ok_aload_n F dX7_hasRoomForBags_18 0 rfl ?_
        refine ok_getr F dX7_hasRoomForBags_19 kF_X7_10 sh_20 rfl ?_
        refine ok_getr F dX7_hasRoomForBags_22 kF_X7_133 sh_21 rfl ?_
        refine ok_iload_n F dX7_hasRoomForBags_25 1 rfl ?_
        refine ok_iald (v := mem 23 k.toNat) F dX7_hasRoomForBags_26 sh_23 (by first | decide | assumption) (by omega) (by omega) (by rw [(hF 23 (by decide))] <;> rfl) ?_
        refine ok_aload_n F dX7_hasRoomForBags_27 0 rfl ?_
        refine ok_getr F dX7_hasRoomForBags_28 kF_X7_71 sh_20 rfl ?_
        refine ok_iload_n F dX7_hasRoomForBags_31 1 rfl ?_
        refine ok_iald (v := mem 213 k.toNat) F dX7_hasRoomForBags_32 sh_213 (by first | decide | assumption) (by omega) (by omega) (by rw [(hF 213 (by decide))] <;> rfl) ?_
        refine ok_aload_n F dX7_hasRoomForBags_33 0 rfl ?_
        refine ok_getr F dX7_hasRoomForBags_34 kF_X7_10 sh_20 rfl ?_
        refine ok_getr F dX7_hasRoomForBags_37 kF_X7_173 sh_21 rfl ?_
        refine ok_iload_n F dX7_hasRoomForBags_40 1 rfl ?_
        refine ok_iald (v := mem 26 k.toNat) F dX7_hasRoomForBags_41 sh_26 (by first | decide | assumption) (by omega) (by omega) (by rw [(hF 26 (by decide))] <;> rfl) ?_
        refine ok_imul F dX7_hasRoomForBags_42 ?_
        refine ok_iadd F dX7_hasRoomForBags_43 ?_
        refine ok_iast F dX7_hasRoomForBags_44 sh_211 (by first | decide | assumption) (by omega) (by omega) (fun m_2 e_3 => ?_)
        refine ok_aload_n F dX7_hasRoomForBags_45 0 rfl ?_
        refine ok_getr F dX7_hasRoomForBags_46 kF_X7_65 sh_20 rfl ?_
        refine ok_iload_n F dX7_hasRoomForBags_49 1 rfl ?_
        refine ok_iald (v := ((mem 23 k.toNat) + ((mem 213 k.toNat) * (mem 26 k.toNat)))) F dX7_hasRoomForBags_50 sh_211 (by first | decide | assumption) (by omega) (by omega) (by rw [e_3]; exact mset_eq _ _ _ _) ?_
        refine ok_bipush F dX7_hasRoomForBags_51 rfl ?_
        refine ok_icmp_lt F 58 dX7_hasRoomForBags_53 (by decide) (by omega) (by omega) (fun c_4 => ?_) (fun c_4 => ?_)
        · refine ok_iinc (lv' := [(1, pI (k + 1)), (0, pR 20)]) F dX7_hasRoomForBags_58 1 rfl (by decide) rfl ?_
          refine ok_goto F 2 dX7_hasRoomForBags_61 (by decide) ?_
          refine ok_lvp [1, 0] (lv' := [(0, pR 20), (1, pI (k + 1))]) rfl ?_
          refine ih_2 _ ?_ (k + 1) m_2 ?_ rfl
          · omega
          · refine ⟨by omega, by omega, fun c hc => by rw [e_3, mset_nka hc]; exact hF c hc, fun j hj => ?_⟩
            rw [e_3]
            by_cases y : j = k.toNat
            · rw [y, mset_eq]; exact ⟨by rw [w1, w2], by omega⟩
            · rw [mset_ne (fun z => y z.2)]; exact hW j (by omega)
        · refine ok_iconst F dX7_hasRoomForBags_56 ?_
          refine ok_zret F G dX7_hasRoomForBags_57 (by first | rfl | exact zb_nar) ?_
          exact ⟨_, rfl, fun c hc => by rw [e_3, mset_nka hc]; exact hF c hc, Or.inr ⟨rfl, k.toNat, by omega, by rw [← w1, ← w2]; omega⟩⟩
  refine ok_lvp [1, 0] (lv' := [(0, pR 20), (1, pI 0)]) rfl ?_
  refine hL_2 _ 0 mem ?_ rfl
  exact ⟨by omega, by omega, fun _ _ => rfl, fun j hj => by omega⟩
theorem dX7_nextBags_0 : decode cX7_nextBags 0 = .ok (.aload_n 0, 1) := by decide +kernel
theorem dX7_nextBags_1 : decode cX7_nextBags 1 = .ok (.getfield 10, 3) := by decide +kernel
theorem dX7_nextBags_4 : decode cX7_nextBags 4 = .ok (.getfield 103, 3) := by decide +kernel
theorem dX7_nextBags_7 : decode cX7_nextBags 7 = .ok (.iconst 1, 1) := by decide +kernel
theorem dX7_nextBags_8 : decode cX7_nextBags 8 = .ok (.isub, 1) := by decide +kernel
theorem dX7_nextBags_9 : decode cX7_nextBags 9 = .ok (.istore_n 1, 1) := by decide +kernel
theorem dX7_nextBags_10 : decode cX7_nextBags 10 = .ok (.iload_n 1, 1) := by decide +kernel
theorem dX7_nextBags_11 : decode cX7_nextBags 11 = .ok (.ifCond .le 18, 3) := by decide +kernel
theorem dX7_nextBags_14 : decode cX7_nextBags 14 = .ok (.aload_n 0, 1) := by decide +kernel
theorem dX7_nextBags_15 : decode cX7_nextBags 15 = .ok (.getfield 71, 3) := by decide +kernel
theorem dX7_nextBags_18 : decode cX7_nextBags 18 = .ok (.iload_n 1, 1) := by decide +kernel
theorem dX7_nextBags_19 : decode cX7_nextBags 19 = .ok (.iaload, 1) := by decide +kernel
theorem dX7_nextBags_20 : decode cX7_nextBags 20 = .ok (.ifCond .ne 9, 3) := by decide +kernel
theorem dX7_nextBags_23 : decode cX7_nextBags 23 = .ok (.iinc 1 (-1), 3) := by decide +kernel
theorem dX7_nextBags_26 : decode cX7_nextBags 26 = .ok (.goto (-16), 3) := by decide +kernel
theorem dX7_nextBags_29 : decode cX7_nextBags 29 = .ok (.iload_n 1, 1) := by decide +kernel
theorem dX7_nextBags_30 : decode cX7_nextBags 30 = .ok (.ifCond .gt 5, 3) := by decide +kernel
theorem dX7_nextBags_33 : decode cX7_nextBags 33 = .ok (.iconst 0, 1) := by decide +kernel
theorem dX7_nextBags_34 : decode cX7_nextBags 34 = .ok (.ireturn, 1) := by decide +kernel
theorem dX7_nextBags_35 : decode cX7_nextBags 35 = .ok (.aload_n 0, 1) := by decide +kernel
theorem dX7_nextBags_36 : decode cX7_nextBags 36 = .ok (.getfield 71, 3) := by decide +kernel
theorem dX7_nextBags_39 : decode cX7_nextBags 39 = .ok (.iload_n 1, 1) := by decide +kernel
theorem dX7_nextBags_40 : decode cX7_nextBags 40 = .ok (.iaload, 1) := by decide +kernel
theorem dX7_nextBags_41 : decode cX7_nextBags 41 = .ok (.istore_n 2, 1) := by decide +kernel
theorem dX7_nextBags_42 : decode cX7_nextBags 42 = .ok (.aload_n 0, 1) := by decide +kernel
theorem dX7_nextBags_43 : decode cX7_nextBags 43 = .ok (.getfield 71, 3) := by decide +kernel
theorem dX7_nextBags_46 : decode cX7_nextBags 46 = .ok (.iload_n 1, 1) := by decide +kernel
theorem dX7_nextBags_47 : decode cX7_nextBags 47 = .ok (.iconst 0, 1) := by decide +kernel
theorem dX7_nextBags_48 : decode cX7_nextBags 48 = .ok (.iastore, 1) := by decide +kernel
theorem dX7_nextBags_49 : decode cX7_nextBags 49 = .ok (.aload_n 0, 1) := by decide +kernel
theorem dX7_nextBags_50 : decode cX7_nextBags 50 = .ok (.getfield 71, 3) := by decide +kernel
theorem dX7_nextBags_53 : decode cX7_nextBags 53 = .ok (.iload_n 1, 1) := by decide +kernel
theorem dX7_nextBags_54 : decode cX7_nextBags 54 = .ok (.iconst 1, 1) := by decide +kernel
theorem dX7_nextBags_55 : decode cX7_nextBags 55 = .ok (.isub, 1) := by decide +kernel
theorem dX7_nextBags_56 : decode cX7_nextBags 56 = .ok (.dup2, 1) := by decide +kernel
theorem dX7_nextBags_57 : decode cX7_nextBags 57 = .ok (.iaload, 1) := by decide +kernel
theorem dX7_nextBags_58 : decode cX7_nextBags 58 = .ok (.iconst 1, 1) := by decide +kernel
theorem dX7_nextBags_59 : decode cX7_nextBags 59 = .ok (.iadd, 1) := by decide +kernel
theorem dX7_nextBags_60 : decode cX7_nextBags 60 = .ok (.iastore, 1) := by decide +kernel
theorem dX7_nextBags_61 : decode cX7_nextBags 61 = .ok (.aload_n 0, 1) := by decide +kernel
theorem dX7_nextBags_62 : decode cX7_nextBags 62 = .ok (.getfield 71, 3) := by decide +kernel
theorem dX7_nextBags_65 : decode cX7_nextBags 65 = .ok (.aload_n 0, 1) := by decide +kernel
theorem dX7_nextBags_66 : decode cX7_nextBags 66 = .ok (.getfield 10, 3) := by decide +kernel
theorem dX7_nextBags_69 : decode cX7_nextBags 69 = .ok (.getfield 103, 3) := by decide +kernel
theorem dX7_nextBags_72 : decode cX7_nextBags 72 = .ok (.iconst 1, 1) := by decide +kernel
theorem dX7_nextBags_73 : decode cX7_nextBags 73 = .ok (.isub, 1) := by decide +kernel
theorem dX7_nextBags_74 : decode cX7_nextBags 74 = .ok (.iload_n 2, 1) := by decide +kernel
theorem dX7_nextBags_75 : decode cX7_nextBags 75 = .ok (.iconst 1, 1) := by decide +kernel
theorem dX7_nextBags_76 : decode cX7_nextBags 76 = .ok (.isub, 1) := by decide +kernel
theorem dX7_nextBags_77 : decode cX7_nextBags 77 = .ok (.iastore, 1) := by decide +kernel
theorem dX7_nextBags_78 : decode cX7_nextBags 78 = .ok (.iconst 1, 1) := by decide +kernel
theorem dX7_nextBags_79 : decode cX7_nextBags 79 = .ok (.ireturn, 1) := by decide +kernel
set_option maxHeartbeats 4000000 in
set_option maxRecDepth 100000 in
theorem m_X7_nextBags (l : Launch) (mem : Mem) (hN : 1 ≤ mem 21 0 ∧ mem 21 0 ≤ 8) (hB : ∀ k : Nat, (k : Int) < mem 21 0 → 0 ≤ mem 213 k ∧ mem 213 k ≤ 4) : Ret shp l yX7_nextBags cX7_nextBags 3 (some .boolean) 0 [pR 20] mem (fun rv mv => ∃ z, rv = some (pI z) ∧ (∀ c, c ≠ 213 → mv c = mem c) ∧ (nzT (mem 213) ((mem 21 0).toNat - 1) = 0 ∧ z = 0 ∧ mv 213 = mem 213 ∨ nzT (mem 213) ((mem 21 0).toNat - 1) ≠ 0 ∧ z = 1 ∧ mv 213 = nxR (mem 21 0).toNat (mem 213))) := by
  refine ret_of (by decide +kernel) (Nat.le_of_ble_eq_true rfl) (fun X hX F G => ?_)
  show Ok shp X 3 0 [(0, pR 20)] [] mem
  refine ok_aload_n F dX7_nextBags_0 0 rfl ?_
  refine ok_getr F dX7_nextBags_1 kF_X7_10 sh_20 rfl ?_
  refine ok_getf (v := mem 21 0) F dX7_nextBags_4 kF_X7_103 sh_21 rfl rfl ?_
  refine ok_iconst F dX7_nextBags_7 ?_
  refine ok_isub F dX7_nextBags_8 ?_
  refine ok_istore_n (lv' := [(1, pI ((mem 21 0) - 1)), (0, pR 20)]) F dX7_nextBags_9 (by decide) rfl ?_
  have hL_10 : ∀ (n_10 : Nat) (p : Int), (0 ≤ p ∧ p ≤ mem 21 0 - 1 ∧ nzT (mem 213) ((mem 21 0).toNat - 1) = nzT (mem 213) p.toNat) → p.toNat = n_10 → Ok shp X 3 10 [(0, pR 20), (1, pI p)] [] mem := by
    intro n_10
    induction n_10 using Nat.strongRecOn with
    | _ n_10 ih_10 =>
      intro p hI_10 hn_10
      obtain ⟨hp0, hp1, hZ⟩ := hI_10
      refine ok_iload_n F dX7_nextBags_10 1 rfl ?_
      refine ok_if_le F 29 dX7_nextBags_11 (by decide) (by omega) (fun c_1 => ?_) (fun c_1 => ?_)
      · refine ok_iload_n F dX7_nextBags_29 1 rfl ?_
        refine ok_if_gt F 35 dX7_nextBags_30 (by decide) (by omega) (fun c_2 => ?_) (fun c_2 => ?_)
        · have hpz : nzT (mem 213) p.toNat = p.toNat := by
            rw [show p.toNat = (p.toNat - 1) + 1 by omega, nzT_s, if_neg (by rw [show p.toNat - 1 + 1 = p.toNat by omega]; omega)]
          rw [hpz] at hZ
          refine ok_aload_n F dX7_nextBags_35 0 rfl ?_
          refine ok_getr F dX7_nextBags_36 kF_X7_71 sh_20 rfl ?_
          refine ok_iload_n F dX7_nextBags_39 1 rfl ?_
          refine ok_iald (v := mem 213 p.toNat) F dX7_nextBags_40 sh_213 (by first | decide | assumption) (by omega) (by omega) rfl ?_
          refine ok_istore_n (lv' := [(2, pI (mem 213 p.toNat)), (0, pR 20), (1, pI p)]) F dX7_nextBags_41 (by decide) rfl ?_
          refine ok_aload_n F dX7_nextBags_42 1 rfl ?_
          refine ok_getr F dX7_nextBags_43 kF_X7_71 sh_20 rfl ?_
          refine ok_iload_n F dX7_nextBags_46 2 rfl ?_
          refine ok_iconst F dX7_nextBags_47 ?_
          refine ok_iast F dX7_nextBags_48 sh_213 (by first | decide | assumption) (by omega) (by omega) (fun m_3 e_4 => ?_)
          obtain ⟨m1, hm1⟩ : ∃ x, x = m_3 := ⟨_, rfl⟩
          have r1 : m1 213 = rput (mem 213) p.toNat 0 := by rw [hm1, e_4]; exact mset_row _ _ _ _
          have f1 : ∀ c, c ≠ 213 → m1 c = mem c := fun c hc => by rw [hm1, e_4]; exact mset_nka hc
          refine ok_aload_n F dX7_nextBags_49 1 rfl ?_
          refine ok_getr F dX7_nextBags_50 kF_X7_71 sh_20 rfl ?_
          refine ok_iload_n F dX7_nextBags_53 2 rfl ?_
          refine ok_iconst F dX7_nextBags_54 ?_
          refine ok_isub F dX7_nextBags_55 ?_
          refine ok_dup2 F dX7_nextBags_56 rfl rfl ?_
          refine ok_iald (v := m_3 213 ((p - 1).toNat)) F dX7_nextBags_57 sh_213 (by first | decide | assumption) (by omega) (by omega) rfl ?_
          refine ok_iconst F dX7_nextBags_58 ?_
          refine ok_iadd F dX7_nextBags_59 ?_
          refine ok_iast F dX7_nextBags_60 sh_213 (by first | decide | assumption) (by omega) (by omega) (fun m_5 e_6 => ?_)
          obtain ⟨m2, hm2⟩ : ∃ x, x = m_5 := ⟨_, rfl⟩
          have r2 : m2 213 = rput (rput (mem 213) p.toNat 0) (p.toNat - 1) (mem 213 (p.toNat - 1) + 1) := by
            rw [hm2, e_6, mset_row, ← hm1, r1, show (p - 1).toNat = p.toNat - 1 by omega]
            congr 1
            unfold rput
            rw [if_neg (by omega)]
          have f2 : ∀ c, c ≠ 213 → m2 c = mem c := fun c hc => by rw [hm2, e_6, mset_nka hc, ← hm1]; exact f1 c hc
          refine ok_aload_n F dX7_nextBags_61 1 rfl ?_
          refine ok_getr F dX7_nextBags_62 kF_X7_71 sh_20 rfl ?_
          refine ok_aload_n F dX7_nextBags_65 1 rfl ?_
          refine ok_getr F dX7_nextBags_66 kF_X7_10 sh_20 rfl ?_
          refine ok_getf (v := mem 21 0) F dX7_nextBags_69 kF_X7_103 sh_21 rfl (by rw [e_6, mset_nk (by decide), e_4, mset_nk (by decide)] <;> rfl) ?_
          refine ok_iconst F dX7_nextBags_72 ?_
          refine ok_isub F dX7_nextBags_73 ?_
          refine ok_iload_n F dX7_nextBags_74 0 rfl ?_
          refine ok_iconst F dX7_nextBags_75 ?_
          refine ok_isub F dX7_nextBags_76 ?_
          refine ok_iast F dX7_nextBags_77 sh_213 (by first | decide | assumption) (by omega) (by omega) (fun m_7 e_8 => ?_)
          refine ok_iconst F dX7_nextBags_78 ?_
          refine ok_zret F G dX7_nextBags_79 (by first | rfl | exact zb_nar) ?_
          refine ⟨_, rfl, fun c hc => by rw [e_8, mset_nka hc, ← hm2]; exact f2 c hc, Or.inr ⟨by rw [hZ]; omega, rfl, ?_⟩⟩
          unfold nxR
          rw [hZ, e_8, mset_row, ← hm2, r2, show (mem 21 0 - 1).toNat = (mem 21 0).toNat - 1 by omega]
        · refine ok_iconst F dX7_nextBags_33 ?_
          refine ok_zret F G dX7_nextBags_34 (by first | rfl | exact zb_nar) ?_
          exact ⟨_, rfl, fun _ _ => rfl, Or.inl ⟨by rw [hZ, show p.toNat = 0 by omega]; rfl, rfl, rfl⟩⟩
      · refine ok_aload_n F dX7_nextBags_14 0 rfl ?_
        refine ok_getr F dX7_nextBags_15 kF_X7_71 sh_20 rfl ?_
        have b1 := hB p.toNat (by omega)
        refine ok_iload_n F dX7_nextBags_18 1 rfl ?_
        refine ok_iald (v := mem 213 p.toNat) F dX7_nextBags_19 sh_213 (by first | decide | assumption) (by omega) (by omega) rfl ?_
        refine ok_if_ne F 29 dX7_nextBags_20 (by decide) (by omega) (fun c_9 => ?_) (fun c_9 => ?_)
        · refine ok_iload_n F dX7_nextBags_29 1 rfl ?_
          refine ok_if_gt F 35 dX7_nextBags_30 (by decide) (by omega) (fun c_10 => ?_) (fun c_10 => ?_)
          · have hpz : nzT (mem 213) p.toNat = p.toNat := by
              rw [show p.toNat = (p.toNat - 1) + 1 by omega, nzT_s, if_neg (by rw [show p.toNat - 1 + 1 = p.toNat by omega]; omega)]
            rw [hpz] at hZ
            refine ok_aload_n F dX7_nextBags_35 0 rfl ?_
            refine ok_getr F dX7_nextBags_36 kF_X7_71 sh_20 rfl ?_
            refine ok_iload_n F dX7_nextBags_39 1 rfl ?_
            refine ok_iald (v := mem 213 p.toNat) F dX7_nextBags_40 sh_213 (by first | decide | assumption) (by omega) (by omega) rfl ?_
            refine ok_istore_n (lv' := [(2, pI (mem 213 p.toNat)), (0, pR 20), (1, pI p)]) F dX7_nextBags_41 (by decide) rfl ?_
            refine ok_aload_n F dX7_nextBags_42 1 rfl ?_
            refine ok_getr F dX7_nextBags_43 kF_X7_71 sh_20 rfl ?_
            refine ok_iload_n F dX7_nextBags_46 2 rfl ?_
            refine ok_iconst F dX7_nextBags_47 ?_
            refine ok_iast F dX7_nextBags_48 sh_213 (by first | decide | assumption) (by omega) (by omega) (fun m_11 e_12 => ?_)
            obtain ⟨m1, hm1⟩ : ∃ x, x = m_11 := ⟨_, rfl⟩
            have r1 : m1 213 = rput (mem 213) p.toNat 0 := by rw [hm1, e_12]; exact mset_row _ _ _ _
            have f1 : ∀ c, c ≠ 213 → m1 c = mem c := fun c hc => by rw [hm1, e_12]; exact mset_nka hc
            refine ok_aload_n F dX7_nextBags_49 1 rfl ?_
            refine ok_getr F dX7_nextBags_50 kF_X7_71 sh_20 rfl ?_
            refine ok_iload_n F dX7_nextBags_53 2 rfl ?_
            refine ok_iconst F dX7_nextBags_54 ?_
            refine ok_isub F dX7_nextBags_55 ?_
            refine ok_dup2 F dX7_nextBags_56 rfl rfl ?_
            refine ok_iald (v := m_11 213 ((p - 1).toNat)) F dX7_nextBags_57 sh_213 (by first | decide | assumption) (by omega) (by omega) rfl ?_
            refine ok_iconst F dX7_nextBags_58 ?_
            refine ok_iadd F dX7_nextBags_59 ?_
            refine ok_iast F dX7_nextBags_60 sh_213 (by first | decide | assumption) (by omega) (by omega) (fun m_13 e_14 => ?_)
            obtain ⟨m2, hm2⟩ : ∃ x, x = m_13 := ⟨_, rfl⟩
            have r2 : m2 213 = rput (rput (mem 213) p.toNat 0) (p.toNat - 1) (mem 213 (p.toNat - 1) + 1) := by
              rw [hm2, e_14, mset_row, ← hm1, r1, show (p - 1).toNat = p.toNat - 1 by omega]
              congr 1
              unfold rput
              rw [if_neg (by omega)]
            have f2 : ∀ c, c ≠ 213 → m2 c = mem c := fun c hc => by rw [hm2, e_14, mset_nka hc, ← hm1]; exact f1 c hc
            refine ok_aload_n F dX7_nextBags_61 1 rfl ?_
            refine ok_getr F dX7_nextBags_62 kF_X7_71 sh_20 rfl ?_
            refine ok_aload_n F dX7_nextBags_65 1 rfl ?_
            refine ok_getr F dX7_nextBags_66 kF_X7_10 sh_20 rfl ?_
            refine ok_getf (v := mem 21 0) F dX7_nextBags_69 kF_X7_103 sh_21 rfl (by rw [e_14, mset_nk (by decide), e_12, mset_nk (by decide)] <;> rfl) ?_
            refine ok_iconst F dX7_nextBags_72 ?_
            refine ok_isub F dX7_nextBags_73 ?_
            refine ok_iload_n F dX7_nextBags_74 0 rfl ?_
            refine ok_iconst F dX7_nextBags_75 ?_
            refine ok_isub F dX7_nextBags_76 ?_
            refine ok_iast F dX7_nextBags_77 sh_213 (by first | decide | assumption) (by omega) (by omega) (fun m_15 e_16 => ?_)
            refine ok_iconst F dX7_nextBags_78 ?_
            refine ok_zret F G dX7_nextBags_79 (by first | rfl | exact zb_nar) ?_
            refine ⟨_, rfl, fun c hc => by rw [e_16, mset_nka hc, ← hm2]; exact f2 c hc, Or.inr ⟨by rw [hZ]; omega, rfl, ?_⟩⟩
            unfold nxR
            rw [hZ, e_16, mset_row, ← hm2, r2, show (mem 21 0 - 1).toNat = (mem 21 0).toNat - 1 by omega]
          · refine ok_iconst F dX7_nextBags_33 ?_
            refine ok_zret F G dX7_nextBags_34 (by first | rfl | exact zb_nar) ?_
            exact ⟨_, rfl, fun _ _ => rfl, Or.inl ⟨by rw [hZ, show p.toNat = 0 by omega]; rfl, rfl, rfl⟩⟩
        · refine ok_iinc (lv' := [(1, pI (p + (-1))), (0, pR 20)]) F dX7_nextBags_23 1 rfl (by decide) rfl ?_
          refine ok_goto F 10 dX7_nextBags_26 (by decide) ?_
          refine ok_lvp [1, 0] (lv' := [(0, pR 20), (1, pI (p + (-1)))]) rfl ?_
          refine ih_10 _ ?_ (p + (-1)) ?_ rfl
          · omega
          · refine ⟨by omega, by omega, ?_⟩
            rw [hZ, show p.toNat = (p + -1).toNat + 1 by omega, nzT_s, if_pos (by rw [show (p + -1).toNat + 1 = p.toNat by omega]; omega)]
  refine ok_lvp [1, 0] (lv' := [(0, pR 20), (1, pI ((mem 21 0) - 1))]) rfl ?_
  refine hL_10 _ ((mem 21 0) - 1) ?_ rfl
  refine ⟨by omega, by omega, ?_⟩
  rw [show (mem 21 0 - 1).toNat = (mem 21 0).toNat - 1 by omega]
theorem dX7_needs_0 : decode cX7_needs 0 = .ok (.aload_n 0, 1) := by decide +kernel
theorem dX7_needs_1 : decode cX7_needs 1 = .ok (.iload_n 1, 1) := by decide +kernel
theorem dX7_needs_2 : decode cX7_needs 2 = .ok (.invokevirtual 146, 3) := by decide +kernel
theorem dX7_needs_5 : decode cX7_needs 5 = .ok (.ifCond .eq 11, 3) := by decide +kernel
theorem dX7_needs_8 : decode cX7_needs 8 = .ok (.aload_n 0, 1) := by decide +kernel
theorem dX7_needs_9 : decode cX7_needs 9 = .ok (.iload_n 2, 1) := by decide +kernel
theorem dX7_needs_10 : decode cX7_needs 10 = .ok (.invokevirtual 246, 3) := by decide +kernel
theorem dX7_needs_13 : decode cX7_needs 13 = .ok (.ifCond .ne 5, 3) := by decide +kernel
theorem dX7_needs_16 : decode cX7_needs 16 = .ok (.iconst (-1), 1) := by decide +kernel
theorem dX7_needs_17 : decode cX7_needs 17 = .ok (.ireturn, 1) := by decide +kernel
theorem dX7_needs_18 : decode cX7_needs 18 = .ok (.iconst 0, 1) := by decide +kernel
theorem dX7_needs_19 : decode cX7_needs 19 = .ok (.istore_n 3, 1) := by decide +kernel
theorem dX7_needs_20 : decode cX7_needs 20 = .ok (.aload_n 0, 1) := by decide +kernel
theorem dX7_needs_21 : decode cX7_needs 21 = .ok (.iconst 0, 1) := by decide +kernel
theorem dX7_needs_22 : decode cX7_needs 22 = .ok (.invokevirtual 311, 3) := by decide +kernel
theorem dX7_needs_25 : decode cX7_needs 25 = .ok (.iconst 0, 1) := by decide +kernel
theorem dX7_needs_26 : decode cX7_needs 26 = .ok (.istore 4, 2) := by decide +kernel
theorem dX7_needs_28 : decode cX7_needs 28 = .ok (.iload 4, 2) := by decide +kernel
theorem dX7_needs_30 : decode cX7_needs 30 = .ok (.ldc_w 314, 3) := by decide +kernel
theorem dX7_needs_33 : decode cX7_needs 33 = .ok (.if_icmp .ge 71, 3) := by decide +kernel
theorem dX7_needs_36 : decode cX7_needs 36 = .ok (.iload_n 3, 1) := by decide +kernel
theorem dX7_needs_37 : decode cX7_needs 37 = .ok (.iconst 4, 1) := by decide +kernel
theorem dX7_needs_38 : decode cX7_needs 38 = .ok (.if_icmp .gt 66, 3) := by decide +kernel
theorem dX7_needs_41 : decode cX7_needs 41 = .ok (.aload_n 0, 1) := by decide +kernel
theorem dX7_needs_42 : decode cX7_needs 42 = .ok (.invokevirtual 315, 3) := by decide +kernel
theorem dX7_needs_45 : decode cX7_needs 45 = .ok (.ifCond .eq 38, 3) := by decide +kernel
theorem dX7_needs_48 : decode cX7_needs 48 = .ok (.aload_n 0, 1) := by decide +kernel
theorem dX7_needs_49 : decode cX7_needs 49 = .ok (.getfield 38, 3) := by decide +kernel
theorem dX7_needs_52 : decode cX7_needs 52 = .ok (.aload_n 0, 1) := by decide +kernel
theorem dX7_needs_53 : decode cX7_needs 53 = .ok (.getfield 65, 3) := by decide +kernel
theorem dX7_needs_56 : decode cX7_needs 56 = .ok (.aload_n 0, 1) := by decide +kernel
theorem dX7_needs_57 : decode cX7_needs 57 = .ok (.getfield 10, 3) := by decide +kernel
theorem dX7_needs_60 : decode cX7_needs 60 = .ok (.iload_n 1, 1) := by decide +kernel
theorem dX7_needs_61 : decode cX7_needs 61 = .ok (.invokevirtual 319, 3) := by decide +kernel
theorem dX7_needs_64 : decode cX7_needs 64 = .ok (.ifCond .eq 19, 3) := by decide +kernel
theorem dX7_needs_67 : decode cX7_needs 67 = .ok (.iload_n 2, 1) := by decide +kernel
theorem dX7_needs_68 : decode cX7_needs 68 = .ok (.iconst (-1), 1) := by decide +kernel
theorem dX7_needs_69 : decode cX7_needs 69 = .ok (.if_icmp .ne 7, 3) := by decide +kernel
theorem dX7_needs_72 : decode cX7_needs 72 = .ok (.iload_n 3, 1) := by decide +kernel
theorem dX7_needs_73 : decode cX7_needs 73 = .ok (.goto 9, 3) := by decide +kernel
theorem dX7_needs_76 : decode cX7_needs 76 = .ok (.aload_n 0, 1) := by decide +kernel
theorem dX7_needs_77 : decode cX7_needs 77 = .ok (.getfield 71, 3) := by decide +kernel
theorem dX7_needs_80 : decode cX7_needs 80 = .ok (.iload_n 2, 1) := by decide +kernel
theorem dX7_needs_81 : decode cX7_needs 81 = .ok (.iaload, 1) := by decide +kernel
theorem dX7_needs_82 : decode cX7_needs 82 = .ok (.ireturn, 1) := by decide +kernel
theorem dX7_needs_83 : decode cX7_needs 83 = .ok (.aload_n 0, 1) := by decide +kernel
theorem dX7_needs_84 : decode cX7_needs 84 = .ok (.invokevirtual 323, 3) := by decide +kernel
theorem dX7_needs_87 : decode cX7_needs 87 = .ok (.ifCond .ne 11, 3) := by decide +kernel
theorem dX7_needs_90 : decode cX7_needs 90 = .ok (.iinc 3 1, 3) := by decide +kernel
theorem dX7_needs_93 : decode cX7_needs 93 = .ok (.aload_n 0, 1) := by decide +kernel
theorem dX7_needs_94 : decode cX7_needs 94 = .ok (.iload_n 3, 1) := by decide +kernel
theorem dX7_needs_95 : decode cX7_needs 95 = .ok (.invokevirtual 311, 3) := by decide +kernel
theorem dX7_needs_98 : decode cX7_needs 98 = .ok (.iinc 4 1, 3) := by decide +kernel
theorem dX7_needs_101 : decode cX7_needs 101 = .ok (.goto (-73), 3) := by decide +kernel
theorem dX7_needs_104 : decode cX7_needs 104 = .ok (.bipush (-2), 2) := by decide +kernel
theorem dX7_needs_106 : decode cX7_needs 106 = .ok (.ireturn, 1) := by decide +kernel
set_option maxHeartbeats 4000000 in
set_option maxRecDepth 100000 in
theorem m_X7_needs (l : Launch) (f : Nat → Int) (d : Int) (g : Int) (mem : Mem) (hd : i32 d) (hg : i32 g) (hCI : CI mem) (hRS : RS mem 21 f) (hG : GR f) (hK : 1 ≤ f 1 → 1 ≤ f 0) : Ret shp l yX7_needs cX7_needs 5 (some .int) 6 [pR 20, pI d, pI g] mem (fun rv mv => ∃ z, rv = some (pI z) ∧ KeepC mem mv ∧ z = if (0 ≤ d ∧ d < f 1) ∧ (g = -1 ∨ 0 ≤ g ∧ g < f 0) then (if (neF f d).1 = -2 then -2 else if g = -1 then (neF f d).1 else (neF f d).2 g.toNat) else -1) := by
  refine ret_of (by decide +kernel) (Nat.le_of_ble_eq_true rfl) (fun X hX F G => ?_)
  show Ok shp X 5 0 [(0, pR 20), (1, pI d), (2, pI g)] [] mem
  have he0 : mem 21 0 = f 0 := hRS.1
  have he1 : mem 21 1 = f 1 := hRS.2.1
  have gb0 := hG.1
  have gb1 := hG.2.1
  have gb2 := hG.2.2.1
  have hTl : ∀ k : Nat, k < 8 → mem 23 k = f (11 + k) := fun k hk => hRS.2.2.1 1 (by omega) k hk
  have hT : ∀ k : Nat, k < 8 → 0 ≤ f (11 + k) ∧ f (11 + k) ≤ 99 := fun k hk => hG.2.2.2.2.2.1 0 (by omega) k hk
  have hW : ∀ k : Nat, k < 8 → 0 ≤ mem 23 k ∧ mem 23 k ≤ 99 := fun k hk => by rw [hTl k hk]; exact hT k hk
  refine ok_aload_n F dX7_needs_0 0 rfl ?_
  refine ok_iload_n F dX7_needs_1 1 rfl ?_
  refine ok_callv F [pI d] dX7_needs_2 kM_X7_hasDay kI_X7_hasDay kV_X7_hasDay kL_X7_146 (ci := 7) rfl sh_20 rfl (by decide) (Nat.le_of_ble_eq_true rfl) rfl (m_X7_hasDay _ d mem (by omega) (by omega)) ?_
  rintro _ _ ⟨rfl, rfl⟩
  refine ok_if_eq F 16 dX7_needs_5 (by decide) (by omega) (fun c_1 => ?_) (fun c_1 => ?_)
  · refine ok_iconst F dX7_needs_16 ?_
    refine ok_iret F G dX7_needs_17 ?_
    exact ⟨_, rfl, KeepC.rf hCI, by rw [if_neg (by omega)]⟩
  · refine ok_aload_n F dX7_needs_8 0 rfl ?_
    refine ok_iload_n F dX7_needs_9 2 rfl ?_
    refine ok_callv F [pI g] dX7_needs_10 kM_X7_isKindOrNone kI_X7_isKindOrNone kV_X7_isKindOrNone kL_X7_246 (ci := 7) rfl sh_20 rfl (by decide) (Nat.le_of_ble_eq_true rfl) rfl (m_X7_isKindOrNone _ g mem (by omega) (by omega)) ?_
    rintro _ _ ⟨rfl, rfl⟩
    refine ok_if_ne F 18 dX7_needs_13 (by decide) (by omega) (fun c_2 => ?_) (fun c_2 => ?_)
    · have hf0 := hK (by omega)
      refine ok_iconst F dX7_needs_18 ?_
      refine ok_istore_n (lv' := [(3, pI 0), (0, pR 20), (1, pI d), (2, pI g)]) F dX7_needs_19 (by decide) rfl ?_
      refine ok_aload_n F dX7_needs_20 1 rfl ?_
      refine ok_iconst F dX7_needs_21 ?_
      refine ok_callv F [pI 0] dX7_needs_22 kM_X7_startBags kI_X7_startBags kV_X7_startBags kL_X7_311 (ci := 7) rfl sh_20 rfl (by decide) (Nat.le_of_ble_eq_true rfl) rfl (m_X7_startBags _ 0 mem (by omega) (by omega)) ?_
      rintro _ m_4 ⟨rfl, r_5⟩
      obtain ⟨s1, s2⟩ := id r_5
      rw [he0] at s2
      refine ok_iconst F dX7_needs_25 ?_
      refine ok_istore (lv' := [(4, pI 0), (3, pI 0), (0, pR 20), (1, pI d), (2, pI g)]) F dX7_needs_26 (by decide) rfl ?_
      have hL_28 : ∀ (n_28 : Nat) (n : Int) (i : Int) (m : Mem), ((0 ≤ n ∧ n ≤ 5) ∧ (0 ≤ i ∧ i ≤ 1000000) ∧ (∀ c, c < 179 → m c = mem c) ∧ CI m ∧ (∀ j : Nat, 8 ≤ j → m 213 j = mem 213 j) ∧ bagR (f 0).toNat n.toNat (m 213) ∧ runR (wellB f d) (f 0).toNat (fun i => if i < 8 then 0 else mem 213 i) 1000000 0 (hdR (f 0).toNat 0 0 (fun i => if i < 8 then 0 else mem 213 i)) = runR (wellB f d) (f 0).toNat (fun i => if i < 8 then 0 else mem 213 i) (1000000 - i).toNat n.toNat (m 213)) → (1000000 - i).toNat = n_28 → Ok shp X 5 28 [(0, pR 20), (1, pI d), (2, pI g), (3, pI n), (4, pI i)] [] m := by
        intro n_28
        induction n_28 using Nat.strongRecOn with
        | _ n_28 ih_28 =>
          intro n i m hI_28 hn_28
          obtain ⟨hnb, hib, hF, hC, hhi, hbag, hRun⟩ := hI_28
          have hRSm : RS m 21 f := hRS.congr (fun c c1 c2 => hF c (by omega))
          have hm210 : m 21 0 = f 0 := hRSm.1
          refine ok_iload F dX7_needs_28 4 rfl ?_
          refine ok_ldcw (n := 1000000) F dX7_needs_30 kK_X7_314 rfl ?_
          refine ok_icmp_ge F 104 dX7_needs_33 (by decide) (by omega) (by omega) (fun c_6 => ?_) (fun c_6 => ?_)
          · refine ok_bipush F dX7_needs_104 rfl ?_
            refine ok_iret F G dX7_needs_106 ?_
            have hR : (runR (wellB f d) (f 0).toNat (fun i => if i < 8 then 0 else mem 213 i) 1000000 0 (hdR (f 0).toNat 0 0 (fun i => if i < 8 then 0 else mem 213 i))).1 = -2 := by
              rw [hRun]
              by_cases q : (1000000 - i).toNat = 0
              · rw [q]; rfl
              · rw [show (1000000 - i).toNat = ((1000000 - i).toNat - 1) + 1 by omega, runR_s, if_pos (by omega)]
            obtain ⟨t1, t2⟩ := run_ne (f := f) (d := d) (by omega) (fun i => if i < 8 then 0 else mem 213 i) (fun i hi => if_pos hi)
            rw [hR] at t1
            refine ⟨_, rfl, ⟨hF, hC⟩, ?_⟩
            rw [if_pos (by omega), if_pos t1.symm]
          · refine ok_iload_n F dX7_needs_36 3 rfl ?_
            refine ok_iconst F dX7_needs_37 ?_
            refine ok_icmp_gt F 104 dX7_needs_38 (by decide) (by omega) (by omega) (fun c_7 => ?_) (fun c_7 => ?_)
            · refine ok_bipush F dX7_needs_104 rfl ?_
              refine ok_iret F G dX7_needs_106 ?_
              have hR : (runR (wellB f d) (f 0).toNat (fun i => if i < 8 then 0 else mem 213 i) 1000000 0 (hdR (f 0).toNat 0 0 (fun i => if i < 8 then 0 else mem 213 i))).1 = -2 := by
                rw [hRun]
                by_cases q : (1000000 - i).toNat = 0
                · rw [q]; rfl
                · rw [show (1000000 - i).toNat = ((1000000 - i).toNat - 1) + 1 by omega, runR_s, if_pos (by omega)]
              obtain ⟨t1, t2⟩ := run_ne (f := f) (d := d) (by omega) (fun i => if i < 8 then 0 else mem 213 i) (fun i hi => if_pos hi)
              rw [hR] at t1
              refine ⟨_, rfl, ⟨hF, hC⟩, ?_⟩
              rw [if_pos (by omega), if_pos t1.symm]
            · have hB4 : ∀ k : Nat, (k : Int) < f 0 → 0 ≤ m 213 k ∧ m 213 k ≤ 4 := fun k hk => by have := hbag.le (show k < (f 0).toNat by omega); omega
              refine ok_aload_n F dX7_needs_41 0 rfl ?_
              refine ok_callv F [] dX7_needs_42 kM_X7_hasRoomForBags kI_X7_hasRoomForBags kV_X7_hasRoomForBags kL_X7_315 (ci := 7) rfl sh_20 rfl (by decide) (Nat.le_of_ble_eq_true rfl) rfl (m_X7_hasRoomForBags _ f m (hRSm) (hG) (hB4)) ?_
              rintro _ m_9 ⟨z_8, rfl, r_10⟩
              obtain ⟨h1, h2⟩ := id r_10
              have hz01 : z_8 = 0 ∨ z_8 = 1 := h2.elim (fun w => Or.inr w.1) (fun w => Or.inl w.1)
              have h2a := fun q : z_8 = 1 => (h2.resolve_right (fun w => absurd (w.1.symm.trans q) (by decide))).2
              have h2b := fun q : z_8 = 0 => (h2.resolve_left (fun w => absurd (w.1.symm.trans q) (by decide))).2
              clear h2 r_10
              obtain ⟨mT, hmT⟩ : ∃ x, x = m_9 := ⟨_, rfl⟩
              rw [← hmT] at h1 h2a
              have hCT : CI mT := hC.congr (fun c c1 c2 _ _ => h1 c (by omega))
              have hRST : RS mT 21 f := hRSm.congr (fun c c1 c2 => h1 c (by omega))
              have hJ_83 : ∀  (mg : Mem), ((∀ c, c < 179 → mg c = m c) ∧ CI mg ∧ mg 213 = m 213 ∧ wellB f d (m 213) = false) → Ok shp X 5 83 [(0, pR 20), (1, pI d), (2, pI g), (3, pI n), (4, pI i)] [] mg := by
                intro mg hI_83
                obtain ⟨hmg1, hmg2, hmg3, hmg4⟩ := hI_83
                refine ok_aload_n F dX7_needs_83 0 rfl ?_
                refine ok_callv F [] dX7_needs_84 kM_X7_nextBags kI_X7_nextBags kV_X7_nextBags kL_X7_323 (ci := 7) rfl sh_20 rfl (by decide) (Nat.le_of_ble_eq_true rfl) rfl (m_X7_nextBags _ mg (by rw [hmg1 21 (by decide)]; omega) (by rw [hmg1 21 (by decide), hmg3]; exact fun k hk => hB4 k (by omega))) ?_
                rintro _ m_12 ⟨z_11, rfl, r_13⟩
                obtain ⟨x1, x2⟩ := id r_13
                rw [hmg1 21 (by decide), hF 21 (by decide), he0, hmg3] at x2
                obtain ⟨mX, hmX⟩ : ∃ x, x = m_12 := ⟨_, rfl⟩
                rw [← hmX] at x1 x2
                have hX1 : ∀ c, c < 179 → mX c = mem c := fun c hc => by rw [x1 c (by omega), hmg1 c hc]; exact hF c hc
                have hXC : CI mX := hmg2.congr (fun c c1 c2 _ _ => x1 c (by omega))
                refine ok_if_ne F 98 dX7_needs_87 (by decide) (by omega) (fun c_14 => ?_) (fun c_14 => ?_)
                · refine ok_iinc (lv' := [(4, pI (i + 1)), (0, pR 20), (1, pI d), (2, pI g), (3, pI n)]) F dX7_needs_98 4 rfl (by decide) rfl ?_
                  refine ok_goto F 28 dX7_needs_101 (by decide) ?_
                  refine ok_lvp [1, 2, 3, 4, 0] (lv' := [(0, pR 20), (1, pI d), (2, pI g), (3, pI n), (4, pI (i + 1))]) rfl ?_
                  refine ih_28 _ ?_ n (i + 1) m_12 ?_ rfl
                  · omega
                  · refine ⟨by omega, by omega, ?_, ?_, fun j hj => ?_, ?_, ?_⟩
                    · first
                        | (rw [← hmX]; exact hX1)
                        | exact fun c hc => by rw [y1 c (by omega)]; exact hX1 c hc
                    · first
                        | (rw [← hmX]; exact hXC)
                        | exact hXC.congr (fun c c1 c2 _ _ => y1 c (by omega))
                    · first
                        | (rw [← hmX, (x2.resolve_left (fun q => by have := q.2.1; omega)).2.2]
                           unfold nxR rput
                           rw [if_neg (by omega), if_neg (by have := (nzT_le (m 213) ((f 0).toNat - 1)).1; omega), if_neg (by have := (nzT_le (m 213) ((f 0).toNat - 1)).1; omega)]
                           exact hhi j hj)
                        | (rw [y2]
                           unfold hdR
                           rw [if_neg (by omega)]
                           show (if j < 8 then 0 else mX 213 j) = mem 213 j
                           rw [if_neg (by omega), (x2.resolve_right (fun q => by have := q.2.1; omega)).2.2]
                           exact hhi j hj)
                    · first
                        | (rw [← hmX, (x2.resolve_left (fun q => by have := q.2.1; omega)).2.2]; exact hbag.nx (x2.resolve_left (fun q => by have := q.2.1; omega)).1)
                        | (rw [y2]; exact bagR.hd _ (by omega))
                    · rw [hRun, show (1000000 - i).toNat = (1000000 - (i + 1)).toNat + 1 by omega, runR_s, if_neg (by omega), if_neg (by rw [hmg4]; decide)]
                      first
                        | (rw [← hmX, if_neg (x2.resolve_left (fun q => by have := q.2.1; omega)).1, (x2.resolve_left (fun q => by have := q.2.1; omega)).2.2])
                        | (rw [if_pos (x2.resolve_right (fun q => by have := q.2.1; omega)).1, y2, show (n + 1).toNat = n.toNat + 1 by omega]
                           congr 1
                           refine hd_congr (fun j hj => ?_)
                           by_cases z : j < 8
                           · rw [if_pos z, if_pos z]
                           · rw [if_neg z, if_neg z, (x2.resolve_right (fun q => by have := q.2.1; omega)).2.2]; exact (hhi j (by omega)).symm)
                · refine ok_iinc (lv' := [(3, pI (n + 1)), (0, pR 20), (1, pI d), (2, pI g), (4, pI i)]) F dX7_needs_90 3 rfl (by decide) rfl ?_
                  refine ok_aload_n F dX7_needs_93 1 rfl ?_
                  refine ok_iload_n F dX7_needs_94 0 rfl ?_
                  refine ok_callv F [pI (n + 1)] dX7_needs_95 kM_X7_startBags kI_X7_startBags kV_X7_startBags kL_X7_311 (ci := 7) rfl sh_20 rfl (by decide) (Nat.le_of_ble_eq_true rfl) rfl (m_X7_startBags _ (n + 1) m_12 (by rw [← hmX, hX1 21 (by decide)]; omega) (by omega)) ?_
                  rintro _ m_16 ⟨rfl, r_17⟩
                  obtain ⟨y1, y2⟩ := id r_17
                  rw [← hmX] at y1 y2
                  rw [hX1 21 (by decide), he0] at y2
                  refine ok_iinc (lv' := [(4, pI (i + 1)), (3, pI (n + 1)), (0, pR 20), (1, pI d), (2, pI g)]) F dX7_needs_98 4 rfl (by decide) rfl ?_
                  refine ok_goto F 28 dX7_needs_101 (by decide) ?_
                  refine ok_lvp [2, 3, 4, 1, 0] (lv' := [(0, pR 20), (1, pI d), (2, pI g), (3, pI (n + 1)), (4, pI (i + 1))]) rfl ?_
                  refine ih_28 _ ?_ (n + 1) (i + 1) m_16 ?_ rfl
                  · omega
                  · refine ⟨by omega, by omega, ?_, ?_, fun j hj => ?_, ?_, ?_⟩
                    · first
                        | (rw [← hmX]; exact hX1)
                        | exact fun c hc => by rw [y1 c (by omega)]; exact hX1 c hc
                    · first
                        | (rw [← hmX]; exact hXC)
                        | exact hXC.congr (fun c c1 c2 _ _ => y1 c (by omega))
                    · first
                        | (rw [← hmX, (x2.resolve_left (fun q => by have := q.2.1; omega)).2.2]
                           unfold nxR rput
                           rw [if_neg (by omega), if_neg (by have := (nzT_le (m 213) ((f 0).toNat - 1)).1; omega), if_neg (by have := (nzT_le (m 213) ((f 0).toNat - 1)).1; omega)]
                           exact hhi j hj)
                        | (rw [y2]
                           unfold hdR
                           rw [if_neg (by omega)]
                           show (if j < 8 then 0 else mX 213 j) = mem 213 j
                           rw [if_neg (by omega), (x2.resolve_right (fun q => by have := q.2.1; omega)).2.2]
                           exact hhi j hj)
                    · first
                        | (rw [← hmX, (x2.resolve_left (fun q => by have := q.2.1; omega)).2.2]; exact hbag.nx (x2.resolve_left (fun q => by have := q.2.1; omega)).1)
                        | (rw [y2]; exact bagR.hd _ (by omega))
                    · rw [hRun, show (1000000 - i).toNat = (1000000 - (i + 1)).toNat + 1 by omega, runR_s, if_neg (by omega), if_neg (by rw [hmg4]; decide)]
                      first
                        | (rw [← hmX, if_neg (x2.resolve_left (fun q => by have := q.2.1; omega)).1, (x2.resolve_left (fun q => by have := q.2.1; omega)).2.2])
                        | (rw [if_pos (x2.resolve_right (fun q => by have := q.2.1; omega)).1, y2, show (n + 1).toNat = n.toNat + 1 by omega]
                           congr 1
                           refine hd_congr (fun j hj => ?_)
                           by_cases z : j < 8
                           · rw [if_pos z, if_pos z]
                           · rw [if_neg z, if_neg z, (x2.resolve_right (fun q => by have := q.2.1; omega)).2.2]; exact (hhi j (by omega)).symm)
              refine ok_if_eq F 83 dX7_needs_45 (by decide) (by omega) (fun c_18 => ?_) (fun c_18 => ?_)
              · refine ok_lvp [0, 1, 2, 3, 4] (lv' := [(0, pR 20), (1, pI d), (2, pI g), (3, pI n), (4, pI i)]) rfl ?_
                refine hJ_83 m_9 ?_
                first
                  | (obtain ⟨k, hk, hfull⟩ := h2b (by omega)
                     refine ⟨fun c hc => by rw [← hmT]; exact h1 c (by omega), by rw [← hmT]; exact hCT, by rw [← hmT]; exact h1 213 (by decide), wellB_full hk gb0.1 (hB4 k hk).1 (hT k (by omega)).2 hfull⟩)
                  | (refine ⟨fun c hc => by rw [← hmW, w1 c (by omega)]; exact h1 c (by omega), by rw [← hmW]; exact w2, by rw [← hmW, w1 213 (by decide)]; exact h1 213 (by decide), ?_⟩
                     rw [hgd]
                     refine decide_eq_false (fun q => ?_)
                     unfold shR at q
                     rw [if_pos q] at w3
                     omega)
              · have hroom := h2a (by omega)
                have hWn : ∀ k : Nat, (k : Int) < f 0 → 0 ≤ mT 211 k ∧ mT 211 k ≤ 99 := fun k hk => by
                  obtain ⟨a, b⟩ := hroom k hk
                  have t1 := hT k (by omega)
                  have t2 := (hG.2.2.2.2.2.1 3 (by omega) k (by omega))
                  have t3 := hB4 k hk
                  have t4 := Int.mul_nonneg t3.1 t2.1
                  refine ⟨?_, b⟩
                  rw [a]
                  exact Int.add_nonneg t1.1 t4
                refine ok_aload_n F dX7_needs_48 0 rfl ?_
                refine ok_getr F dX7_needs_49 kF_X7_38 sh_20 rfl ?_
                refine ok_aload_n F dX7_needs_52 0 rfl ?_
                refine ok_getr F dX7_needs_53 kF_X7_65 sh_20 rfl ?_
                refine ok_aload_n F dX7_needs_56 0 rfl ?_
                refine ok_getr F dX7_needs_57 kF_X7_10 sh_20 rfl ?_
                refine ok_iload_n F dX7_needs_60 1 rfl ?_
                refine ok_callv F [pR 211, pR 21, pI d] dX7_needs_61 kM_X2_isLivedWhole kI_X2_isLivedWhole kV_X2_isLivedWhole kL_X7_319 (ci := 2) rfl sh_179 rfl (by decide) (Nat.le_of_ble_eq_true rfl) rfl (m_X2_isLivedWhole_n _ f 211 d m_9 (by rw [← hmT]; exact hCT) (by rw [← hmT]; exact hRST) (hG) (sh_211) (by decide) (by rw [← hmT]; exact hWn) (by omega)) ?_
                rintro _ m_20 ⟨z_19, rfl, r_21⟩
                obtain ⟨w1, w2, w3⟩ := id r_21
                rw [← hmT] at w1 w3
                have hgd : wellB f d (m 213) = decide (shR f d (f 2).toNat (mT 211) = 0) := wellB_room gb0 hroom
                obtain ⟨mW, hmW⟩ : ∃ x, x = m_20 := ⟨_, rfl⟩
                rw [← hmW] at w1 w2
                refine ok_if_eq F 83 dX7_needs_64 (by decide) (by omega) (fun c_22 => ?_) (fun c_22 => ?_)
                · refine ok_lvp [0, 1, 2, 3, 4] (lv' := [(0, pR 20), (1, pI d), (2, pI g), (3, pI n), (4, pI i)]) rfl ?_
                  refine hJ_83 m_20 ?_
                  first
                    | (obtain ⟨k, hk, hfull⟩ := h2b (by omega)
                       refine ⟨fun c hc => by rw [← hmT]; exact h1 c (by omega), by rw [← hmT]; exact hCT, by rw [← hmT]; exact h1 213 (by decide), wellB_full hk gb0.1 (hB4 k hk).1 (hT k (by omega)).2 hfull⟩)
                    | (refine ⟨fun c hc => by rw [← hmW, w1 c (by omega)]; exact h1 c (by omega), by rw [← hmW]; exact w2, by rw [← hmW, w1 213 (by decide)]; exact h1 213 (by decide), ?_⟩
                       rw [hgd]
                       refine decide_eq_false (fun q => ?_)
                       unfold shR at q
                       rw [if_pos q] at w3
                       omega)
                · refine ok_iload_n F dX7_needs_67 2 rfl ?_
                  refine ok_iconst F dX7_needs_68 ?_
                  refine ok_icmp_ne F 76 dX7_needs_69 (by decide) (by omega) (by omega) (fun c_23 => ?_) (fun c_23 => ?_)
                  · refine ok_aload_n F dX7_needs_76 0 rfl ?_
                    refine ok_getr F dX7_needs_77 kF_X7_71 sh_20 rfl ?_
                    refine ok_iload_n F dX7_needs_80 2 rfl ?_
                    refine ok_iald (v := m_20 213 g.toNat) F dX7_needs_81 sh_213 (by first | decide | assumption) (by omega) (by omega) rfl ?_
                    refine ok_iret F G dX7_needs_82 ?_
                    have hgd2 : wellB f d (m 213) = true := by
                      rw [hgd]
                      refine decide_eq_true ?_
                      unfold shR
                      by_cases q : (lifeN f d (life0 (mT 211) (fun _ => 0)) (f 2).toNat).2.2.1 = 0
                      · exact q
                      · rw [if_neg q] at w3; omega
                    have hR : runR (wellB f d) (f 0).toNat (fun i => if i < 8 then 0 else mem 213 i) 1000000 0 (hdR (f 0).toNat 0 0 (fun i => if i < 8 then 0 else mem 213 i)) = ((n.toNat : Int), m 213) := by rw [hRun, show (1000000 - i).toNat = (1000000 - (i + 1)).toNat + 1 by omega, runR_s, if_neg (by omega), if_pos hgd2]
                    obtain ⟨t1, t2⟩ := run_ne (f := f) (d := d) (by omega) (fun i => if i < 8 then 0 else mem 213 i) (fun i hi => if_pos hi)
                    rw [hR] at t1 t2
                    have t1 : (n.toNat : Int) = (neF f d).1 := t1
                    refine ⟨_, rfl, ⟨fun c hc => by rw [← hmW, w1 c (by omega), h1 c (by omega)]; exact hF c hc, by rw [← hmW]; exact w2⟩, ?_⟩
                    rw [if_pos (by omega), if_neg (by omega)]
                    first
                      | (rw [if_pos (by omega)]; omega)
                      | (rw [if_neg (by omega), ← t2 (by omega) g.toNat (by omega)]
                         show _ = m 213 g.toNat
                         rw [← hmW, w1 213 (by decide), h1 213 (by decide)])
                  · refine ok_iload_n F dX7_needs_72 3 rfl ?_
                    refine ok_goto F 82 dX7_needs_73 (by decide) ?_
                    refine ok_iret F G dX7_needs_82 ?_
                    have hgd2 : wellB f d (m 213) = true := by
                      rw [hgd]
                      refine decide_eq_true ?_
                      unfold shR
                      by_cases q : (lifeN f d (life0 (mT 211) (fun _ => 0)) (f 2).toNat).2.2.1 = 0
                      · exact q
                      · rw [if_neg q] at w3; omega
                    have hR : runR (wellB f d) (f 0).toNat (fun i => if i < 8 then 0 else mem 213 i) 1000000 0 (hdR (f 0).toNat 0 0 (fun i => if i < 8 then 0 else mem 213 i)) = ((n.toNat : Int), m 213) := by rw [hRun, show (1000000 - i).toNat = (1000000 - (i + 1)).toNat + 1 by omega, runR_s, if_neg (by omega), if_pos hgd2]
                    obtain ⟨t1, t2⟩ := run_ne (f := f) (d := d) (by omega) (fun i => if i < 8 then 0 else mem 213 i) (fun i hi => if_pos hi)
                    rw [hR] at t1 t2
                    have t1 : (n.toNat : Int) = (neF f d).1 := t1
                    refine ⟨_, rfl, ⟨fun c hc => by rw [← hmW, w1 c (by omega), h1 c (by omega)]; exact hF c hc, by rw [← hmW]; exact w2⟩, ?_⟩
                    rw [if_pos (by omega), if_neg (by omega)]
                    first
                      | (rw [if_pos (by omega)]; omega)
                      | (rw [if_neg (by omega), ← t2 (by omega) g.toNat (by omega)]
                         show _ = m 213 g.toNat
                         rw [← hmW, w1 213 (by decide), h1 213 (by decide)])
      refine ok_lvp [2, 3, 4, 1, 0] (lv' := [(0, pR 20), (1, pI d), (2, pI g), (3, pI 0), (4, pI 0)]) rfl ?_
      refine hL_28 _ 0 0 m_4 ?_ rfl
      refine ⟨by omega, by omega, fun c hc => s1 c (by omega), hCI.congr (fun c c1 c2 _ _ => s1 c (by omega)), fun j hj => ?_, ?_, ?_⟩
      · rw [s2]
        unfold hdR
        rw [if_neg (by omega)]
        show (if j < 8 then 0 else mem 213 j) = mem 213 j
        rw [if_neg (by omega)]
      · rw [s2]; exact bagR.hd _ (by omega)
      · rw [s2]; rfl
    · refine ok_iconst F dX7_needs_16 ?_
      refine ok_iret F G dX7_needs_17 ?_
      exact ⟨_, rfl, KeepC.rf hCI, by rw [if_neg (by omega)]⟩
