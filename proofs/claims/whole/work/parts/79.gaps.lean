/-! the class: amounts without change -/
theorem gapAt_congr {f g : Nat → Bool} : ∀ (n a : Nat), (∀ x, a ≤ x → x < a + n → f x = g x) → gapAt f n a = gapAt g n a
  | 0, _, _ => rfl
  | n + 1, a, h => by
    rw [gapAt_s, gapAt_s, h a (by omega) (by omega), gapAt_congr n (a + 1) (fun x h1 h2 => h x (by omega) (by omega))]
theorem gap_eq {m : Mem} {v c : Nat → Nat} {n : Nat} (h : ∀ a, a ≤ 2500 → (rS m a = true ↔ fewT v c n a < 1000000)) : sumN (fun a => if rS m a = true then (0 : Int) else 1) 2501 = gapsF v c n ∧ gapAt (fun a => !rS m a) 2501 0 = gapAt (fun a => decide (fewT v c n a = 1000000)) 2501 0 := by
  constructor
  · unfold gapsF
    refine sumN_congr (fun a ha => ?_)
    have q := h a (by omega)
    by_cases y : rS m a = true
    · rw [if_pos y, if_pos (q.mp y)]
    · rw [if_neg y, if_neg (fun z => y (q.mpr z))]
  · refine gapAt_congr _ _ (fun a _ ha => ?_)
    have q := h a (by omega)
    have b := fewT_bd v c n a
    cases y : rS m a
    · have z : ¬ fewT v c n a < 1000000 := fun z => by rw [q.mpr z] at y; exact absurd y (by decide)
      exact (decide_eq_true (by omega)).symm
    · have z := q.mp y
      exact (decide_eq_false (by omega)).symm
theorem spread_f {mem mv : Mem} {f w : Nat → Int} {R : Nat} (hRS : RS mem 21 f) (hG : GR f) (h : ∀ a : Nat, a ≤ 2500 → (rS mv a = true ↔ fewT (fun i => (mem 22 i).toNat) (fun i => (mem R i).toNat) (mem 21 0).toNat a < 1000000)) (hw : ∀ i, i < 8 → mem R i = w i) : ∀ a : Nat, a ≤ 2500 → (rS mv a = true ↔ fewT (fun i => (f (3 + i)).toNat) (fun i => (w i).toNat) (f 0).toNat a < 1000000) := by
  intro a ha
  have g0 := hG.1
  rw [h a ha, hRS.1, fewT_congr2 (v' := fun i => (f (3 + i)).toNat) (c' := fun i => (w i).toNat) a (fun i hi => by
    have e : mem 22 i = f (3 + i) := hRS.2.2.1 0 (by decide) i (by omega)
    have e2 := hw i (by omega)
    exact ⟨by rw [e], by rw [e2]⟩)]
theorem dX7_gap_0 : decode cX7_gap 0 = .ok (.iload_n 1, 1) := by decide +kernel
theorem dX7_gap_1 : decode cX7_gap 1 = .ok (.ifCond .lt 8, 3) := by decide +kernel
theorem dX7_gap_4 : decode cX7_gap 4 = .ok (.iload_n 1, 1) := by decide +kernel
theorem dX7_gap_5 : decode cX7_gap 5 = .ok (.iconst 1, 1) := by decide +kernel
theorem dX7_gap_6 : decode cX7_gap 6 = .ok (.if_icmp .le 5, 3) := by decide +kernel
theorem dX7_gap_9 : decode cX7_gap 9 = .ok (.iconst (-1), 1) := by decide +kernel
theorem dX7_gap_10 : decode cX7_gap 10 = .ok (.ireturn, 1) := by decide +kernel
theorem dX7_gap_11 : decode cX7_gap 11 = .ok (.aload_n 0, 1) := by decide +kernel
theorem dX7_gap_12 : decode cX7_gap 12 = .ok (.getfield 57, 3) := by decide +kernel
theorem dX7_gap_15 : decode cX7_gap 15 = .ok (.aload_n 0, 1) := by decide +kernel
theorem dX7_gap_16 : decode cX7_gap 16 = .ok (.getfield 10, 3) := by decide +kernel
theorem dX7_gap_19 : decode cX7_gap 19 = .ok (.aload_n 0, 1) := by decide +kernel
theorem dX7_gap_20 : decode cX7_gap 20 = .ok (.getfield 10, 3) := by decide +kernel
theorem dX7_gap_23 : decode cX7_gap 23 = .ok (.getfield 133, 3) := by decide +kernel
theorem dX7_gap_26 : decode cX7_gap 26 = .ok (.invokevirtual 264, 3) := by decide +kernel
theorem dX7_gap_29 : decode cX7_gap 29 = .ok (.iload_n 1, 1) := by decide +kernel
theorem dX7_gap_30 : decode cX7_gap 30 = .ok (.ifCond .ne 13, 3) := by decide +kernel
theorem dX7_gap_33 : decode cX7_gap 33 = .ok (.aload_n 0, 1) := by decide +kernel
theorem dX7_gap_34 : decode cX7_gap 34 = .ok (.getfield 57, 3) := by decide +kernel
theorem dX7_gap_37 : decode cX7_gap 37 = .ok (.invokevirtual 268, 3) := by decide +kernel
theorem dX7_gap_40 : decode cX7_gap 40 = .ok (.goto 10, 3) := by decide +kernel
theorem dX7_gap_43 : decode cX7_gap 43 = .ok (.aload_n 0, 1) := by decide +kernel
theorem dX7_gap_44 : decode cX7_gap 44 = .ok (.getfield 57, 3) := by decide +kernel
theorem dX7_gap_47 : decode cX7_gap 47 = .ok (.invokevirtual 271, 3) := by decide +kernel
theorem dX7_gap_50 : decode cX7_gap 50 = .ok (.ireturn, 1) := by decide +kernel
set_option maxHeartbeats 4000000 in
set_option maxRecDepth 100000 in
theorem m_X7_gap (l : Launch) (f : Nat → Int) (w : Int) (mem : Mem) (hw : i32 w) (hCI : CI mem) (hRS : RS mem 21 f) (hG : GR f) : Ret shp l yX7_gap cX7_gap 2 (some .int) 3 [pR 20, pI w] mem (fun rv mv => ∃ z, rv = some (pI z) ∧ KeepC mem mv ∧ z = if 0 ≤ w ∧ w ≤ 1 then (if w = 0 then gapAt (fun a => decide (fewT (fun i => (f (3 + i)).toNat) (fun i => (f (11 + i)).toNat) (f 0).toNat a = 1000000)) 2501 0 else gapsF (fun i => (f (3 + i)).toNat) (fun i => (f (11 + i)).toNat) (f 0).toNat) else -1) := by
  refine ret_of (by decide +kernel) (Nat.le_of_ble_eq_true rfl) (fun X hX F G => ?_)
  show Ok shp X 2 0 [(0, pR 20), (1, pI w)] [] mem
  have he0 : mem 21 0 = f 0 := hRS.1
  have he1 : mem 21 1 = f 1 := hRS.2.1
  have gb0 := hG.1
  have gb1 := hG.2.1
  have gb2 := hG.2.2.1
  have hTl : ∀ k : Nat, k < 8 → mem 23 k = f (11 + k) := fun k hk => hRS.2.2.1 1 (by omega) k hk
  have hT : ∀ k : Nat, k < 8 → 0 ≤ f (11 + k) ∧ f (11 + k) ≤ 99 := fun k hk => hG.2.2.2.2.2.1 0 (by omega) k hk
  have hW : ∀ k : Nat, k < 8 → 0 ≤ mem 23 k ∧ mem 23 k ≤ 99 := fun k hk => by rw [hTl k hk]; exact hT k hk
  refine ok_iload_n F dX7_gap_0 1 rfl ?_
  refine ok_if_lt F 9 dX7_gap_1 (by decide) (by omega) (fun c_1 => ?_) (fun c_1 => ?_)
  · refine ok_iconst F dX7_gap_9 ?_
    refine ok_iret F G dX7_gap_10 ?_
    exact ⟨_, rfl, KeepC.rf hCI, by rw [if_neg (by omega)]⟩
  · refine ok_iload_n F dX7_gap_4 1 rfl ?_
    refine ok_iconst F dX7_gap_5 ?_
    refine ok_icmp_le F 11 dX7_gap_6 (by decide) (by omega) (by omega) (fun c_2 => ?_) (fun c_2 => ?_)
    · refine ok_aload_n F dX7_gap_11 0 rfl ?_
      refine ok_getr F dX7_gap_12 kF_X7_57 sh_20 rfl ?_
      refine ok_aload_n F dX7_gap_15 0 rfl ?_
      refine ok_getr F dX7_gap_16 kF_X7_10 sh_20 rfl ?_
      refine ok_aload_n F dX7_gap_19 0 rfl ?_
      refine ok_getr F dX7_gap_20 kF_X7_10 sh_20 rfl ?_
      refine ok_getr F dX7_gap_23 kF_X7_133 sh_21 rfl ?_
      refine ok_callv F [pR 21, pR 23] dX7_gap_26 kM_X3_spread kI_X3_spread kV_X3_spread kL_X7_264 (ci := 3) rfl sh_207 rfl (by decide) (Nat.le_of_ble_eq_true rfl) rfl (m_X3_spread _ 23 mem (sh_23) (by decide) (by rw [hRS.1]; exact gb0) (fun i hi => by rw [hRS.1] at hi; rw [show _ = f (3 + i) from hRS.2.2.1 0 (by decide) i (by omega)]; exact ⟨hG.2.2.2.2.1 i hi, (hG.2.2.2.1 i (by omega)).2⟩) (hW)) ?_
      rintro _ m_4 ⟨rfl, r_5⟩
      obtain ⟨n1, n2⟩ := id r_5
      have n3 := spread_f (w := fun i => f (11 + i)) hRS hG n2 hTl
      obtain ⟨n4, n5⟩ := gap_eq n3
      refine ok_iload_n F dX7_gap_29 1 rfl ?_
      refine ok_if_ne F 43 dX7_gap_30 (by decide) (by omega) (fun c_6 => ?_) (fun c_6 => ?_)
      · refine ok_aload_n F dX7_gap_43 0 rfl ?_
        refine ok_getr F dX7_gap_44 kF_X7_57 sh_20 rfl ?_
        refine ok_callv F [] dX7_gap_47 kM_X3_missing kI_X3_missing kV_X3_missing kL_X7_271 (ci := 3) rfl sh_207 rfl (by decide) (Nat.le_of_ble_eq_true rfl) rfl (m_X3_missing _ m_4) ?_
        rintro _ _ ⟨rfl, rfl⟩
        refine ok_iret F G dX7_gap_50 ?_
        refine ⟨_, rfl, ⟨fun c hc => n1 c (by omega), hCI.congr (fun c c1 c2 _ _ => n1 c (by omega))⟩, ?_⟩
        rw [if_pos (by omega)]
        first
          | (rw [if_pos (by omega)]; exact n5)
          | (rw [if_neg (by omega)]; exact n4)
      · refine ok_aload_n F dX7_gap_33 0 rfl ?_
        refine ok_getr F dX7_gap_34 kF_X7_57 sh_20 rfl ?_
        refine ok_callv F [] dX7_gap_37 kM_X3_leastMissing kI_X3_leastMissing kV_X3_leastMissing kL_X7_268 (ci := 3) rfl sh_207 rfl (by decide) (Nat.le_of_ble_eq_true rfl) rfl (m_X3_leastMissing _ m_4) ?_
        rintro _ _ ⟨rfl, rfl⟩
        refine ok_goto F 50 dX7_gap_40 (by decide) ?_
        refine ok_iret F G dX7_gap_50 ?_
        refine ⟨_, rfl, ⟨fun c hc => n1 c (by omega), hCI.congr (fun c c1 c2 _ _ => n1 c (by omega))⟩, ?_⟩
        rw [if_pos (by omega)]
        first
          | (rw [if_pos (by omega)]; exact n5)
          | (rw [if_neg (by omega)]; exact n4)
    · refine ok_iconst F dX7_gap_9 ?_
      refine ok_iret F G dX7_gap_10 ?_
      exact ⟨_, rfl, KeepC.rf hCI, by rw [if_neg (by omega)]⟩
theorem dX7_scarce_0 : decode cX7_scarce 0 = .ok (.iload_n 1, 1) := by decide +kernel
theorem dX7_scarce_1 : decode cX7_scarce 1 = .ok (.ifCond .lt 8, 3) := by decide +kernel
theorem dX7_scarce_4 : decode cX7_scarce 4 = .ok (.iload_n 1, 1) := by decide +kernel
theorem dX7_scarce_5 : decode cX7_scarce 5 = .ok (.iconst 1, 1) := by decide +kernel
theorem dX7_scarce_6 : decode cX7_scarce 6 = .ok (.if_icmp .le 5, 3) := by decide +kernel
theorem dX7_scarce_9 : decode cX7_scarce 9 = .ok (.iconst (-1), 1) := by decide +kernel
theorem dX7_scarce_10 : decode cX7_scarce 10 = .ok (.ireturn, 1) := by decide +kernel
theorem dX7_scarce_11 : decode cX7_scarce 11 = .ok (.aload_n 0, 1) := by decide +kernel
theorem dX7_scarce_12 : decode cX7_scarce 12 = .ok (.getfield 57, 3) := by decide +kernel
theorem dX7_scarce_15 : decode cX7_scarce 15 = .ok (.aload_n 0, 1) := by decide +kernel
theorem dX7_scarce_16 : decode cX7_scarce 16 = .ok (.getfield 10, 3) := by decide +kernel
theorem dX7_scarce_19 : decode cX7_scarce 19 = .ok (.aload_n 0, 1) := by decide +kernel
theorem dX7_scarce_20 : decode cX7_scarce 20 = .ok (.getfield 10, 3) := by decide +kernel
theorem dX7_scarce_23 : decode cX7_scarce 23 = .ok (.getfield 133, 3) := by decide +kernel
theorem dX7_scarce_26 : decode cX7_scarce 26 = .ok (.invokevirtual 264, 3) := by decide +kernel
theorem dX7_scarce_29 : decode cX7_scarce 29 = .ok (.aload_n 0, 1) := by decide +kernel
theorem dX7_scarce_30 : decode cX7_scarce 30 = .ok (.getfield 57, 3) := by decide +kernel
theorem dX7_scarce_33 : decode cX7_scarce 33 = .ok (.invokevirtual 271, 3) := by decide +kernel
theorem dX7_scarce_36 : decode cX7_scarce 36 = .ok (.istore_n 2, 1) := by decide +kernel
theorem dX7_scarce_37 : decode cX7_scarce 37 = .ok (.bipush (-2), 2) := by decide +kernel
theorem dX7_scarce_39 : decode cX7_scarce 39 = .ok (.istore_n 3, 1) := by decide +kernel
theorem dX7_scarce_40 : decode cX7_scarce 40 = .ok (.aload_n 0, 1) := by decide +kernel
theorem dX7_scarce_41 : decode cX7_scarce 41 = .ok (.getfield 10, 3) := by decide +kernel
theorem dX7_scarce_44 : decode cX7_scarce 44 = .ok (.getfield 133, 3) := by decide +kernel
theorem dX7_scarce_47 : decode cX7_scarce 47 = .ok (.aload_n 0, 1) := by decide +kernel
theorem dX7_scarce_48 : decode cX7_scarce 48 = .ok (.getfield 65, 3) := by decide +kernel
theorem dX7_scarce_51 : decode cX7_scarce 51 = .ok (.invokestatic 154, 3) := by decide +kernel
theorem dX7_scarce_54 : decode cX7_scarce 54 = .ok (.iconst 0, 1) := by decide +kernel
theorem dX7_scarce_55 : decode cX7_scarce 55 = .ok (.istore 4, 2) := by decide +kernel
theorem dX7_scarce_57 : decode cX7_scarce 57 = .ok (.iload 4, 2) := by decide +kernel
theorem dX7_scarce_59 : decode cX7_scarce 59 = .ok (.aload_n 0, 1) := by decide +kernel
theorem dX7_scarce_60 : decode cX7_scarce 60 = .ok (.getfield 10, 3) := by decide +kernel
theorem dX7_scarce_63 : decode cX7_scarce 63 = .ok (.getfield 103, 3) := by decide +kernel
theorem dX7_scarce_66 : decode cX7_scarce 66 = .ok (.if_icmp .ge 83, 3) := by decide +kernel
theorem dX7_scarce_69 : decode cX7_scarce 69 = .ok (.aload_n 0, 1) := by decide +kernel
theorem dX7_scarce_70 : decode cX7_scarce 70 = .ok (.getfield 65, 3) := by decide +kernel
theorem dX7_scarce_73 : decode cX7_scarce 73 = .ok (.iload 4, 2) := by decide +kernel
theorem dX7_scarce_75 : decode cX7_scarce 75 = .ok (.iaload, 1) := by decide +kernel
theorem dX7_scarce_76 : decode cX7_scarce 76 = .ok (.bipush 99, 2) := by decide +kernel
theorem dX7_scarce_78 : decode cX7_scarce 78 = .ok (.if_icmp .lt 6, 3) := by decide +kernel
theorem dX7_scarce_81 : decode cX7_scarce 81 = .ok (.goto 62, 3) := by decide +kernel
theorem dX7_scarce_84 : decode cX7_scarce 84 = .ok (.aload_n 0, 1) := by decide +kernel
theorem dX7_scarce_85 : decode cX7_scarce 85 = .ok (.getfield 65, 3) := by decide +kernel
theorem dX7_scarce_88 : decode cX7_scarce 88 = .ok (.iload 4, 2) := by decide +kernel
theorem dX7_scarce_90 : decode cX7_scarce 90 = .ok (.dup2, 1) := by decide +kernel
theorem dX7_scarce_91 : decode cX7_scarce 91 = .ok (.iaload, 1) := by decide +kernel
theorem dX7_scarce_92 : decode cX7_scarce 92 = .ok (.iconst 1, 1) := by decide +kernel
theorem dX7_scarce_93 : decode cX7_scarce 93 = .ok (.iadd, 1) := by decide +kernel
theorem dX7_scarce_94 : decode cX7_scarce 94 = .ok (.iastore, 1) := by decide +kernel
theorem dX7_scarce_95 : decode cX7_scarce 95 = .ok (.aload_n 0, 1) := by decide +kernel
theorem dX7_scarce_96 : decode cX7_scarce 96 = .ok (.getfield 57, 3) := by decide +kernel
theorem dX7_scarce_99 : decode cX7_scarce 99 = .ok (.aload_n 0, 1) := by decide +kernel
theorem dX7_scarce_100 : decode cX7_scarce 100 = .ok (.getfield 10, 3) := by decide +kernel
theorem dX7_scarce_103 : decode cX7_scarce 103 = .ok (.aload_n 0, 1) := by decide +kernel
theorem dX7_scarce_104 : decode cX7_scarce 104 = .ok (.getfield 65, 3) := by decide +kernel
theorem dX7_scarce_107 : decode cX7_scarce 107 = .ok (.invokevirtual 264, 3) := by decide +kernel
theorem dX7_scarce_110 : decode cX7_scarce 110 = .ok (.aload_n 0, 1) := by decide +kernel
theorem dX7_scarce_111 : decode cX7_scarce 111 = .ok (.getfield 65, 3) := by decide +kernel
theorem dX7_scarce_114 : decode cX7_scarce 114 = .ok (.iload 4, 2) := by decide +kernel
theorem dX7_scarce_116 : decode cX7_scarce 116 = .ok (.dup2, 1) := by decide +kernel
theorem dX7_scarce_117 : decode cX7_scarce 117 = .ok (.iaload, 1) := by decide +kernel
theorem dX7_scarce_118 : decode cX7_scarce 118 = .ok (.iconst 1, 1) := by decide +kernel
theorem dX7_scarce_119 : decode cX7_scarce 119 = .ok (.isub, 1) := by decide +kernel
theorem dX7_scarce_120 : decode cX7_scarce 120 = .ok (.iastore, 1) := by decide +kernel
theorem dX7_scarce_121 : decode cX7_scarce 121 = .ok (.aload_n 0, 1) := by decide +kernel
theorem dX7_scarce_122 : decode cX7_scarce 122 = .ok (.getfield 57, 3) := by decide +kernel
theorem dX7_scarce_125 : decode cX7_scarce 125 = .ok (.invokevirtual 271, 3) := by decide +kernel
theorem dX7_scarce_128 : decode cX7_scarce 128 = .ok (.iload_n 2, 1) := by decide +kernel
theorem dX7_scarce_129 : decode cX7_scarce 129 = .ok (.if_icmp .ge 14, 3) := by decide +kernel
theorem dX7_scarce_132 : decode cX7_scarce 132 = .ok (.aload_n 0, 1) := by decide +kernel
theorem dX7_scarce_133 : decode cX7_scarce 133 = .ok (.getfield 57, 3) := by decide +kernel
theorem dX7_scarce_136 : decode cX7_scarce 136 = .ok (.invokevirtual 271, 3) := by decide +kernel
theorem dX7_scarce_139 : decode cX7_scarce 139 = .ok (.istore_n 2, 1) := by decide +kernel
theorem dX7_scarce_140 : decode cX7_scarce 140 = .ok (.iload 4, 2) := by decide +kernel
theorem dX7_scarce_142 : decode cX7_scarce 142 = .ok (.istore_n 3, 1) := by decide +kernel
theorem dX7_scarce_143 : decode cX7_scarce 143 = .ok (.iinc 4 1, 3) := by decide +kernel
theorem dX7_scarce_146 : decode cX7_scarce 146 = .ok (.goto (-89), 3) := by decide +kernel
theorem dX7_scarce_149 : decode cX7_scarce 149 = .ok (.iload_n 1, 1) := by decide +kernel
theorem dX7_scarce_150 : decode cX7_scarce 150 = .ok (.ifCond .eq 7, 3) := by decide +kernel
theorem dX7_scarce_153 : decode cX7_scarce 153 = .ok (.iload_n 3, 1) := by decide +kernel
theorem dX7_scarce_154 : decode cX7_scarce 154 = .ok (.ifCond .ge 7, 3) := by decide +kernel
theorem dX7_scarce_157 : decode cX7_scarce 157 = .ok (.iload_n 3, 1) := by decide +kernel
theorem dX7_scarce_158 : decode cX7_scarce 158 = .ok (.goto 4, 3) := by decide +kernel
theorem dX7_scarce_161 : decode cX7_scarce 161 = .ok (.iload_n 2, 1) := by decide +kernel
theorem dX7_scarce_162 : decode cX7_scarce 162 = .ok (.ireturn, 1) := by decide +kernel
set_option maxHeartbeats 4000000 in
set_option maxRecDepth 100000 in
theorem m_X7_scarce (l : Launch) (f : Nat → Int) (w : Int) (mem : Mem) (hw : i32 w) (hCI : CI mem) (hRS : RS mem 21 f) (hG : GR f) : Ret shp l yX7_scarce cX7_scarce 5 (some .int) 3 [pR 20, pI w] mem (fun rv mv => ∃ z, rv = some (pI z) ∧ KeepC mem mv ∧ z = if 0 ≤ w ∧ w ≤ 1 then (if (scarceF (fun i => (f (3 + i)).toNat) (fun i => (f (11 + i)).toNat) (f 0).toNat (f 0).toNat).2 = -2 then -2 else if w = 0 then (scarceF (fun i => (f (3 + i)).toNat) (fun i => (f (11 + i)).toNat) (f 0).toNat (f 0).toNat).2 else (scarceF (fun i => (f (3 + i)).toNat) (fun i => (f (11 + i)).toNat) (f 0).toNat (f 0).toNat).1) else -1) := by
  refine ret_of (by decide +kernel) (Nat.le_of_ble_eq_true rfl) (fun X hX F G => ?_)
  show Ok shp X 5 0 [(0, pR 20), (1, pI w)] [] mem
  have he0 : mem 21 0 = f 0 := hRS.1
  have he1 : mem 21 1 = f 1 := hRS.2.1
  have gb0 := hG.1
  have gb1 := hG.2.1
  have gb2 := hG.2.2.1
  have hTl : ∀ k : Nat, k < 8 → mem 23 k = f (11 + k) := fun k hk => hRS.2.2.1 1 (by omega) k hk
  have hT : ∀ k : Nat, k < 8 → 0 ≤ f (11 + k) ∧ f (11 + k) ≤ 99 := fun k hk => hG.2.2.2.2.2.1 0 (by omega) k hk
  have hW : ∀ k : Nat, k < 8 → 0 ≤ mem 23 k ∧ mem 23 k ≤ 99 := fun k hk => by rw [hTl k hk]; exact hT k hk
  refine ok_iload_n F dX7_scarce_0 1 rfl ?_
  refine ok_if_lt F 9 dX7_scarce_1 (by decide) (by omega) (fun c_1 => ?_) (fun c_1 => ?_)
  · refine ok_iconst F dX7_scarce_9 ?_
    refine ok_iret F G dX7_scarce_10 ?_
    exact ⟨_, rfl, KeepC.rf hCI, by rw [if_neg (by omega)]⟩
  · refine ok_iload_n F dX7_scarce_4 1 rfl ?_
    refine ok_iconst F dX7_scarce_5 ?_
    refine ok_icmp_le F 11 dX7_scarce_6 (by decide) (by omega) (by omega) (fun c_2 => ?_) (fun c_2 => ?_)
    · refine ok_aload_n F dX7_scarce_11 0 rfl ?_
      refine ok_getr F dX7_scarce_12 kF_X7_57 sh_20 rfl ?_
      refine ok_aload_n F dX7_scarce_15 0 rfl ?_
      refine ok_getr F dX7_scarce_16 kF_X7_10 sh_20 rfl ?_
      refine ok_aload_n F dX7_scarce_19 0 rfl ?_
      refine ok_getr F dX7_scarce_20 kF_X7_10 sh_20 rfl ?_
      refine ok_getr F dX7_scarce_23 kF_X7_133 sh_21 rfl ?_
      refine ok_callv F [pR 21, pR 23] dX7_scarce_26 kM_X3_spread kI_X3_spread kV_X3_spread kL_X7_264 (ci := 3) rfl sh_207 rfl (by decide) (Nat.le_of_ble_eq_true rfl) rfl (m_X3_spread _ 23 mem (sh_23) (by decide) (by rw [hRS.1]; exact gb0) (fun i hi => by rw [hRS.1] at hi; rw [show _ = f (3 + i) from hRS.2.2.1 0 (by decide) i (by omega)]; exact ⟨hG.2.2.2.2.1 i hi, (hG.2.2.2.1 i (by omega)).2⟩) (hW)) ?_
      rintro _ m_4 ⟨rfl, r_5⟩
      obtain ⟨n1, n2⟩ := id r_5
      have n3 := spread_f (w := fun i => f (11 + i)) hRS hG n2 hTl
      obtain ⟨n4, n5⟩ := gap_eq n3
      have n4b := gapsF_bd (fun i => (f (3 + i)).toNat) (fun i => (f (11 + i)).toNat) (f 0).toNat
      refine ok_aload_n F dX7_scarce_29 0 rfl ?_
      refine ok_getr F dX7_scarce_30 kF_X7_57 sh_20 rfl ?_
      refine ok_callv F [] dX7_scarce_33 kM_X3_missing kI_X3_missing kV_X3_missing kL_X7_271 (ci := 3) rfl sh_207 rfl (by decide) (Nat.le_of_ble_eq_true rfl) rfl (m_X3_missing _ m_4) ?_
      rintro _ _ ⟨rfl, rfl⟩
      refine ok_istore_n (lv' := [(2, pI (sumN (fun a => if rS m_4 a = true then 0 else 1) 2501)), (0, pR 20), (1, pI w)]) F dX7_scarce_36 (by decide) rfl ?_
      refine ok_bipush F dX7_scarce_37 rfl ?_
      refine ok_istore_n (lv' := [(3, pI (-2)), (2, pI (sumN (fun a => if rS m_4 a = true then 0 else 1) 2501)), (0, pR 20), (1, pI w)]) F dX7_scarce_39 (by decide) rfl ?_
      refine ok_aload_n F dX7_scarce_40 2 rfl ?_
      refine ok_getr F dX7_scarce_41 kF_X7_10 sh_20 rfl ?_
      refine ok_getr F dX7_scarce_44 kF_X7_133 sh_21 rfl ?_
      refine ok_aload_n F dX7_scarce_47 2 rfl ?_
      refine ok_getr F dX7_scarce_48 kF_X7_65 sh_20 rfl ?_
      refine ok_calls F [pR 23, pR 211] dX7_scarce_51 kM_X7_copyRow kS_X7_copyRow kL_X7_154 rfl (by decide) (Nat.le_of_ble_eq_true rfl) rfl (m_X7_copyRow _ 23 211 m_4 (8) (sh_23) (sh_211) (by decide)) ?_
      rintro _ m_6 ⟨rfl, e_7⟩
      have eC := e_7
      have hcF : ∀ c, c ≠ 208 → c ≠ 211 → m_6 c = mem c := fun c h8 h2 => by
        rw [eC]; funext b
        exact (if_neg (fun q => h2 q.1)).trans (congrFun (n1 c h8) b)
      have hc211 : ∀ j : Nat, j < 8 → m_6 211 j = f (11 + j) := fun j hj => by
        rw [eC]
        refine (if_pos ⟨rfl, Nat.zero_le _, by omega⟩).trans ?_
        rw [show 0 + (j - 0) = j by omega, n1 23 (by decide)]; exact hTl j hj
      refine ok_iconst F dX7_scarce_54 ?_
      refine ok_istore (lv' := [(4, pI 0), (3, pI (-2)), (2, pI (sumN (fun a => if rS m_4 a = true then 0 else 1) 2501)), (0, pR 20), (1, pI w)]) F dX7_scarce_55 (by decide) rfl ?_
      have hL_57 : ∀ (n_57 : Nat) (b : Int) (c : Int) (k : Int) (m : Mem), (0 ≤ k ∧ k ≤ f 0 ∧ (∀ a, a ≠ 208 → a ≠ 211 → m a = mem a) ∧ (∀ j : Nat, j < 8 → m 211 j = f (11 + j)) ∧ b = (scarceF (fun i => (f (3 + i)).toNat) (fun i => (f (11 + i)).toNat) (f 0).toNat k.toNat).1 ∧ c = (scarceF (fun i => (f (3 + i)).toNat) (fun i => (f (11 + i)).toNat) (f 0).toNat k.toNat).2 ∧ (0 ≤ b ∧ b ≤ 2501) ∧ (c = -2 ∨ 0 ≤ c) ∧ c ≤ 8) → (f 0 - k).toNat = n_57 → Ok shp X 5 57 [(0, pR 20), (1, pI w), (2, pI b), (3, pI c), (4, pI k)] [] m := by
        intro n_57
        induction n_57 using Nat.strongRecOn with
        | _ n_57 ih_57 =>
          intro b c k m hI_57 hn_57
          obtain ⟨hk0, hk1, hF, hT211, hb, hc, hbb, hc1, hc2⟩ := hI_57
          refine ok_iload F dX7_scarce_57 4 rfl ?_
          refine ok_aload_n F dX7_scarce_59 0 rfl ?_
          refine ok_getr F dX7_scarce_60 kF_X7_10 sh_20 rfl ?_
          refine ok_getf (v := mem 21 0) F dX7_scarce_63 kF_X7_103 sh_21 rfl (by rw [(hF 21 (by decide) (by decide))] <;> rfl) ?_
          refine ok_icmp_ge F 149 dX7_scarce_66 (by decide) (by omega) (by omega) (fun c_8 => ?_) (fun c_8 => ?_)
          · refine ok_iload_n F dX7_scarce_149 1 rfl ?_
            refine ok_if_eq F 157 dX7_scarce_150 (by decide) (by omega) (fun c_9 => ?_) (fun c_9 => ?_)
            · refine ok_iload_n F dX7_scarce_157 3 rfl ?_
              refine ok_goto F 162 dX7_scarce_158 (by decide) ?_
              refine ok_iret F G dX7_scarce_162 ?_
              have ek : f 0 = k := by omega
              refine ⟨_, rfl, ⟨fun a ha => hF a (by omega) (by omega), hCI.congr (fun a a1 a2 _ _ => hF a (by omega) (by omega))⟩, ?_⟩
              rw [if_pos (by omega)]
              have e0 : (f 0).toNat = k.toNat := by omega
              rw [← ek] at hb hc
              rw [← hb, ← hc]
              by_cases y : c = -2
              · first
                | (rw [if_pos y]; exact y)
                | (exfalso; omega)
              · first
                | (rw [if_neg y, if_pos (by omega)]; done)
                | (rw [if_neg y, if_neg (by omega)]; done)
                | (exfalso; omega)
            · refine ok_iload_n F dX7_scarce_153 3 rfl ?_
              refine ok_if_ge F 161 dX7_scarce_154 (by decide) (by omega) (fun c_10 => ?_) (fun c_10 => ?_)
              · refine ok_iload_n F dX7_scarce_161 2 rfl ?_
                refine ok_iret F G dX7_scarce_162 ?_
                have ek : f 0 = k := by omega
                refine ⟨_, rfl, ⟨fun a ha => hF a (by omega) (by omega), hCI.congr (fun a a1 a2 _ _ => hF a (by omega) (by omega))⟩, ?_⟩
                rw [if_pos (by omega)]
                have e0 : (f 0).toNat = k.toNat := by omega
                rw [← ek] at hb hc
                rw [← hb, ← hc]
                by_cases y : c = -2
                · first
                  | (rw [if_pos y]; exact y)
                  | (exfalso; omega)
                · first
                  | (rw [if_neg y, if_pos (by omega)]; done)
                  | (rw [if_neg y, if_neg (by omega)]; done)
                  | (exfalso; omega)
              · refine ok_iload_n F dX7_scarce_157 3 rfl ?_
                refine ok_goto F 162 dX7_scarce_158 (by decide) ?_
                refine ok_iret F G dX7_scarce_162 ?_
                have ek : f 0 = k := by omega
                refine ⟨_, rfl, ⟨fun a ha => hF a (by omega) (by omega), hCI.congr (fun a a1 a2 _ _ => hF a (by omega) (by omega))⟩, ?_⟩
                rw [if_pos (by omega)]
                have e0 : (f 0).toNat = k.toNat := by omega
                rw [← ek] at hb hc
                rw [← hb, ← hc]
                by_cases y : c = -2
                · first
                  | (rw [if_pos y]; exact y)
                  | (exfalso; omega)
                · first
                  | (rw [if_neg y, if_pos (by omega)]; done)
                  | (rw [if_neg y, if_neg (by omega)]; done)
                  | (exfalso; omega)
          · have q1 := hT211 k.toNat (by omega)
            have q2 := hT k.toNat (by omega)
            refine ok_aload_n F dX7_scarce_69 0 rfl ?_
            refine ok_getr F dX7_scarce_70 kF_X7_65 sh_20 rfl ?_
            refine ok_iload F dX7_scarce_73 4 rfl ?_
            refine ok_iald (v := m 211 k.toNat) F dX7_scarce_75 sh_211 (by first | decide | assumption) (by omega) (by omega) rfl ?_
            refine ok_bipush F dX7_scarce_76 rfl ?_
            refine ok_icmp_lt F 84 dX7_scarce_78 (by decide) (by omega) (by omega) (fun c_11 => ?_) (fun c_11 => ?_)
            · refine ok_aload_n F dX7_scarce_84 0 rfl ?_
              refine ok_getr F dX7_scarce_85 kF_X7_65 sh_20 rfl ?_
              refine ok_iload F dX7_scarce_88 4 rfl ?_
              refine ok_dup2 F dX7_scarce_90 rfl rfl ?_
              refine ok_iald (v := m 211 k.toNat) F dX7_scarce_91 sh_211 (by first | decide | assumption) (by omega) (by omega) rfl ?_
              refine ok_iconst F dX7_scarce_92 ?_
              refine ok_iadd F dX7_scarce_93 ?_
              refine ok_iast F dX7_scarce_94 sh_211 (by first | decide | assumption) (by omega) (by omega) (fun m_12 e_13 => ?_)
              have hF4 : ∀ c, c ≠ 211 → m_12 c = m c := fun c hc => by rw [e_13]; exact mset_nka hc
              have hRS4 : RS m_12 21 f := hRS.congr (fun c c1 c2 => by rw [hF4 c (by omega)]; exact hF c (by omega) (by omega))
              have h4 : ∀ i : Nat, i < 8 → m_12 211 i = if i = k.toNat then f (11 + i) + 1 else f (11 + i) := fun i hi => by
                rw [e_13]
                by_cases e : i = k.toNat
                · subst e; rw [mset_eq, if_pos rfl, q1]
                · rw [mset_ne (fun q => e q.2), if_neg e]; exact hT211 i hi
              have hW4 : ∀ i : Nat, i < 8 → 0 ≤ m_12 211 i ∧ m_12 211 i ≤ 99 := fun i hi => by
                rw [h4 i hi]
                have q3 := hT i hi
                by_cases e : i = k.toNat
                · subst e; rw [if_pos rfl]; omega
                · rw [if_neg e]; exact q3
              obtain ⟨m4, hm4⟩ : ∃ x, x = m_12 := ⟨_, rfl⟩
              refine ok_aload_n F dX7_scarce_95 0 rfl ?_
              refine ok_getr F dX7_scarce_96 kF_X7_57 sh_20 rfl ?_
              refine ok_aload_n F dX7_scarce_99 0 rfl ?_
              refine ok_getr F dX7_scarce_100 kF_X7_10 sh_20 rfl ?_
              refine ok_aload_n F dX7_scarce_103 0 rfl ?_
              refine ok_getr F dX7_scarce_104 kF_X7_65 sh_20 rfl ?_
              refine ok_callv F [pR 21, pR 211] dX7_scarce_107 kM_X3_spread kI_X3_spread kV_X3_spread kL_X7_264 (ci := 3) rfl sh_207 rfl (by decide) (Nat.le_of_ble_eq_true rfl) rfl (m_X3_spread _ 211 m_12 (sh_211) (by decide) (by rw [hRS4.1]; exact gb0) (fun i hi => by rw [hRS4.1] at hi; rw [show _ = f (3 + i) from hRS4.2.2.1 0 (by decide) i (by omega)]; exact ⟨hG.2.2.2.2.1 i hi, (hG.2.2.2.1 i (by omega)).2⟩) (hW4)) ?_
              rintro _ m_15 ⟨rfl, r_16⟩
              obtain ⟨n1, n2⟩ := id r_16
              rw [← hm4] at n1 n2
              have n3 := spread_f (w := fun i => if i = k.toNat then f (11 + i) + 1 else f (11 + i)) (by rw [hm4]; exact hRS4) hG n2 (by rw [hm4]; exact h4)
              have hF4 : ∀ c, c ≠ 211 → m4 c = m c := by rw [hm4]; exact hF4
              have h4 : ∀ i : Nat, i < 8 → m4 211 i = if i = k.toNat then f (11 + i) + 1 else f (11 + i) := by rw [hm4]; exact h4
              obtain ⟨m5, hm5⟩ : ∃ x, x = m_15 := ⟨_, rfl⟩
              refine ok_aload_n F dX7_scarce_110 0 rfl ?_
              refine ok_getr F dX7_scarce_111 kF_X7_65 sh_20 rfl ?_
              refine ok_iload F dX7_scarce_114 4 rfl ?_
              refine ok_dup2 F dX7_scarce_116 rfl rfl ?_
              refine ok_iald (v := m_15 211 k.toNat) F dX7_scarce_117 sh_211 (by first | decide | assumption) (by omega) (by omega) rfl ?_
              refine ok_iconst F dX7_scarce_118 ?_
              refine ok_isub F dX7_scarce_119 ?_
              refine ok_iast F dX7_scarce_120 sh_211 (by first | decide | assumption) (by omega) (by omega) (fun m_17 e_18 => ?_)
              have hF6 : ∀ c, c ≠ 208 → c ≠ 211 → m_17 c = mem c := fun c h8 h2 => by rw [e_18, mset_nka h2, n1 c h8, hF4 c h2]; exact hF c h8 h2
              have h6 : ∀ i : Nat, i < 8 → m_17 211 i = f (11 + i) := fun i hi => by
                rw [e_18]
                by_cases e : i = k.toNat
                · subst e; rw [mset_eq, n1 211 (by decide), h4 _ hi, if_pos rfl]; omega
                · rw [mset_ne (fun q => e q.2), n1 211 (by decide), h4 i hi, if_neg e]
              have h208 : ∀ a : Nat, a ≤ 2500 → (rS m_17 a = true ↔ fewT (fun i => (f (3 + i)).toNat) (fun i => (if i = k.toNat then f (11 + i) + 1 else f (11 + i)).toNat) (f 0).toNat a < 1000000) := fun a ha => by
                have e : rS m_17 a = rS m5 a := by
                  unfold rS
                  rw [e_18, mset_nka (by decide), ← hm5]
                rw [e, hm5]; exact n3 a ha
              have eM : sumN (fun a => if rS m_17 a = true then (0 : Int) else 1) 2501 = moreG (fun i => (f (3 + i)).toNat) (fun i => (f (11 + i)).toNat) (f 0).toNat k.toNat := by
                rw [(gap_eq h208).1]
                unfold moreG
                exact gapsF_congr (fun i hi => by have q3 := hT i (by omega); by_cases e : i = k.toNat; (rw [if_pos e, if_pos e]; (try dsimp only); omega); (rw [if_neg e, if_neg e]))
              have gM := gapsF_bd (fun i => (f (3 + i)).toNat) (fun i => if i = k.toNat then (fun i => (f (11 + i)).toNat) i + 1 else (fun i => (f (11 + i)).toNat) i) (f 0).toNat
              have gM2 : moreG (fun i => (f (3 + i)).toNat) (fun i => (f (11 + i)).toNat) (f 0).toNat k.toNat = gapsF (fun i => (f (3 + i)).toNat) (fun i => if i = k.toNat then (fun i => (f (11 + i)).toNat) i + 1 else (fun i => (f (11 + i)).toNat) i) (f 0).toNat := rfl
              refine ok_aload_n F dX7_scarce_121 0 rfl ?_
              refine ok_getr F dX7_scarce_122 kF_X7_57 sh_20 rfl ?_
              refine ok_callv F [] dX7_scarce_125 kM_X3_missing kI_X3_missing kV_X3_missing kL_X7_271 (ci := 3) rfl sh_207 rfl (by decide) (Nat.le_of_ble_eq_true rfl) rfl (m_X3_missing _ m_17) ?_
              rintro _ _ ⟨rfl, rfl⟩
              refine ok_iload_n F dX7_scarce_128 2 rfl ?_
              refine ok_icmp_ge F 143 dX7_scarce_129 (by decide) (by omega) (by omega) (fun c_19 => ?_) (fun c_19 => ?_)
              · refine ok_iinc (lv' := [(4, pI (k + 1)), (0, pR 20), (1, pI w), (2, pI b), (3, pI c)]) F dX7_scarce_143 4 rfl (by decide) rfl ?_
                refine ok_goto F 57 dX7_scarce_146 (by decide) ?_
                refine ok_lvp [1, 2, 3, 4, 0] (lv' := [(0, pR 20), (1, pI w), (2, pI b), (3, pI c), (4, pI (k + 1))]) rfl ?_
                refine ih_57 _ ?_ b c (k + 1) m_17 ?_ rfl
                · omega
                · have ect : (fun i => (f (11 + i)).toNat) k.toNat = (f (11 + k.toNat)).toNat := rfl
                  first
                    | (refine ⟨by omega, by omega, hF, hT211, ?_, ?_, by omega, by omega, by omega⟩ <;> (rw [scarceF_s _ _ _ hk0, if_neg (by omega)]; assumption))
                    | (refine ⟨by omega, by omega, hF6, h6, ?_, ?_, by omega, by omega, by omega⟩
                       · rw [scarceF_s _ _ _ hk0]; first | (rw [if_pos (by omega)]; exact eM) | (rw [if_neg (by omega)]; exact hb)
                       · rw [scarceF_s _ _ _ hk0]; first | (rw [if_pos (by omega)]; done) | (rw [if_neg (by omega)]; exact hc))
              · refine ok_aload_n F dX7_scarce_132 0 rfl ?_
                refine ok_getr F dX7_scarce_133 kF_X7_57 sh_20 rfl ?_
                refine ok_callv F [] dX7_scarce_136 kM_X3_missing kI_X3_missing kV_X3_missing kL_X7_271 (ci := 3) rfl sh_207 rfl (by decide) (Nat.le_of_ble_eq_true rfl) rfl (m_X3_missing _ m_17) ?_
                rintro _ _ ⟨rfl, rfl⟩
                refine ok_istore_n (lv' := [(2, pI (sumN (fun a => if rS m_17 a = true then 0 else 1) 2501)), (0, pR 20), (1, pI w), (3, pI c), (4, pI k)]) F dX7_scarce_139 (by decide) rfl ?_
                refine ok_iload F dX7_scarce_140 4 rfl ?_
                refine ok_istore_n (lv' := [(3, pI k), (2, pI (sumN (fun a => if rS m_17 a = true then 0 else 1) 2501)), (0, pR 20), (1, pI w), (4, pI k)]) F dX7_scarce_142 (by decide) rfl ?_
                refine ok_iinc (lv' := [(4, pI (k + 1)), (3, pI k), (2, pI (sumN (fun a => if rS m_17 a = true then 0 else 1) 2501)), (0, pR 20), (1, pI w)]) F dX7_scarce_143 4 rfl (by decide) rfl ?_
                refine ok_goto F 57 dX7_scarce_146 (by decide) ?_
                refine ok_lvp [3, 4, 2, 1, 0] (lv' := [(0, pR 20), (1, pI w), (2, pI (sumN (fun a => if rS m_17 a = true then 0 else 1) 2501)), (3, pI k), (4, pI (k + 1))]) rfl ?_
                refine ih_57 _ ?_ (sumN (fun a => if rS m_17 a = true then 0 else 1) 2501) k (k + 1) m_17 ?_ rfl
                · omega
                · have ect : (fun i => (f (11 + i)).toNat) k.toNat = (f (11 + k.toNat)).toNat := rfl
                  first
                    | (refine ⟨by omega, by omega, hF, hT211, ?_, ?_, by omega, by omega, by omega⟩ <;> (rw [scarceF_s _ _ _ hk0, if_neg (by omega)]; assumption))
                    | (refine ⟨by omega, by omega, hF6, h6, ?_, ?_, by omega, by omega, by omega⟩
                       · rw [scarceF_s _ _ _ hk0]; first | (rw [if_pos (by omega)]; exact eM) | (rw [if_neg (by omega)]; exact hb)
                       · rw [scarceF_s _ _ _ hk0]; first | (rw [if_pos (by omega)]; done) | (rw [if_neg (by omega)]; exact hc))
            · refine ok_goto F 143 dX7_scarce_81 (by decide) ?_
              refine ok_iinc (lv' := [(4, pI (k + 1)), (0, pR 20), (1, pI w), (2, pI b), (3, pI c)]) F dX7_scarce_143 4 rfl (by decide) rfl ?_
              refine ok_goto F 57 dX7_scarce_146 (by decide) ?_
              refine ok_lvp [1, 2, 3, 4, 0] (lv' := [(0, pR 20), (1, pI w), (2, pI b), (3, pI c), (4, pI (k + 1))]) rfl ?_
              refine ih_57 _ ?_ b c (k + 1) m ?_ rfl
              · omega
              · have ect : (fun i => (f (11 + i)).toNat) k.toNat = (f (11 + k.toNat)).toNat := rfl
                first
                  | (refine ⟨by omega, by omega, hF, hT211, ?_, ?_, by omega, by omega, by omega⟩ <;> (rw [scarceF_s _ _ _ hk0, if_neg (by omega)]; assumption))
                  | (refine ⟨by omega, by omega, hF6, h6, ?_, ?_, by omega, by omega, by omega⟩
                     · rw [scarceF_s _ _ _ hk0]; first | (rw [if_pos (by omega)]; exact eM) | (rw [if_neg (by omega)]; exact hb)
                     · rw [scarceF_s _ _ _ hk0]; first | (rw [if_pos (by omega)]; done) | (rw [if_neg (by omega)]; exact hc))
      refine ok_lvp [3, 4, 2, 1, 0] (lv' := [(0, pR 20), (1, pI w), (2, pI (sumN (fun a => if rS m_4 a = true then 0 else 1) 2501)), (3, pI (-2)), (4, pI 0)]) rfl ?_
      refine hL_57 _ (sumN (fun a => if rS m_4 a = true then 0 else 1) 2501) (-2) 0 m_6 ?_ rfl
      refine ⟨by omega, by omega, hcF, hc211, n4, rfl, by rw [n4]; exact gapsF_bd _ _ _, by omega, by omega⟩
    · refine ok_iconst F dX7_scarce_9 ?_
      refine ok_iret F G dX7_scarce_10 ?_
      exact ⟨_, rfl, KeepC.rf hCI, by rw [if_neg (by omega)]⟩
