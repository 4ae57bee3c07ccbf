/-! the reference: the worst day; a day lived in earnest -/
theorem lifeD_congr {m mem : Mem} {d : Int} (h1 : m 1 = mem 1) (hN : mem 1 0 ≤ 8) : (∀ k, k < 8 → (lifeD m d).1 k = (lifeD mem d).1 k) ∧ (∀ k, k < 8 → (lifeD m d).2.1 k = (lifeD mem d).2.1 k) ∧ (lifeD m d).2.2 = (lifeD mem d).2.2 := by
  unfold lifeD
  rw [h1]
  exact lifeN_congr hN (fun k hk => by rw [tillW_at hk, tillW_at hk, h1]) _
/-- of the first n days: which, how many short, pieces -/
def worstF (mem : Mem) : Nat → Int × Int × Int
  | 0 => (-2, -2, -2)
  | n + 1 => if (worstF mem n).2.1 < (lifeD mem n).2.2.1 ∨ (lifeD mem n).2.2.1 = (worstF mem n).2.1 ∧ (worstF mem n).2.2 < (lifeD mem n).2.2.2.1 then ((n : Int), (lifeD mem n).2.2.1, (lifeD mem n).2.2.2.1) else worstF mem n
theorem worstF_s (mem : Mem) {k : Int} (h : 0 ≤ k) : worstF mem (k + 1).toNat = if (worstF mem k.toNat).2.1 < (lifeD mem k).2.2.1 ∨ (lifeD mem k).2.2.1 = (worstF mem k.toNat).2.1 ∧ (worstF mem k.toNat).2.2 < (lifeD mem k).2.2.2.1 then (k, (lifeD mem k).2.2.1, (lifeD mem k).2.2.2.1) else worstF mem k.toNat := by
  have e : ((k.toNat : Nat) : Int) = k := by omega
  rw [show (k + 1).toNat = k.toNat + 1 by omega]
  show (if (worstF mem k.toNat).2.1 < (lifeD mem ((k.toNat : Nat) : Int)).2.2.1 ∨ (lifeD mem ((k.toNat : Nat) : Int)).2.2.1 = (worstF mem k.toNat).2.1 ∧ (worstF mem k.toNat).2.2 < (lifeD mem ((k.toNat : Nat) : Int)).2.2.2.1 then (((k.toNat : Nat) : Int), (lifeD mem ((k.toNat : Nat) : Int)).2.2.1, (lifeD mem ((k.toNat : Nat) : Int)).2.2.2.1) else worstF mem k.toNat) = _
  rw [e]
theorem dX8_worst_0 : decode cX8_worst 0 = .ok (.iload_n 1, 1) := by decide +kernel
theorem dX8_worst_1 : decode cX8_worst 1 = .ok (.i2l, 1) := by decide +kernel
theorem dX8_worst_2 : decode cX8_worst 2 = .ok (.lconst 0, 1) := by decide +kernel
theorem dX8_worst_3 : decode cX8_worst 3 = .ok (.ldc2_w 335, 3) := by decide +kernel
theorem dX8_worst_6 : decode cX8_worst 6 = .ok (.invokestatic 100, 3) := by decide +kernel
theorem dX8_worst_9 : decode cX8_worst 9 = .ok (.ifCond .ne 5, 3) := by decide +kernel
theorem dX8_worst_12 : decode cX8_worst 12 = .ok (.iconst (-1), 1) := by decide +kernel
theorem dX8_worst_13 : decode cX8_worst 13 = .ok (.ireturn, 1) := by decide +kernel
theorem dX8_worst_14 : decode cX8_worst 14 = .ok (.bipush (-2), 2) := by decide +kernel
theorem dX8_worst_16 : decode cX8_worst 16 = .ok (.istore_n 2, 1) := by decide +kernel
theorem dX8_worst_17 : decode cX8_worst 17 = .ok (.bipush (-2), 2) := by decide +kernel
theorem dX8_worst_19 : decode cX8_worst 19 = .ok (.istore_n 3, 1) := by decide +kernel
theorem dX8_worst_20 : decode cX8_worst 20 = .ok (.bipush (-2), 2) := by decide +kernel
theorem dX8_worst_22 : decode cX8_worst 22 = .ok (.istore 4, 2) := by decide +kernel
theorem dX8_worst_24 : decode cX8_worst 24 = .ok (.iconst 0, 1) := by decide +kernel
theorem dX8_worst_25 : decode cX8_worst 25 = .ok (.istore 5, 2) := by decide +kernel
theorem dX8_worst_27 : decode cX8_worst 27 = .ok (.iload 5, 2) := by decide +kernel
theorem dX8_worst_29 : decode cX8_worst 29 = .ok (.aload_n 0, 1) := by decide +kernel
theorem dX8_worst_30 : decode cX8_worst 30 = .ok (.getfield 9, 3) := by decide +kernel
theorem dX8_worst_33 : decode cX8_worst 33 = .ok (.iconst 1, 1) := by decide +kernel
theorem dX8_worst_34 : decode cX8_worst 34 = .ok (.iaload, 1) := by decide +kernel
theorem dX8_worst_35 : decode cX8_worst 35 = .ok (.if_icmp .ge 54, 3) := by decide +kernel
theorem dX8_worst_38 : decode cX8_worst 38 = .ok (.aload_n 0, 1) := by decide +kernel
theorem dX8_worst_39 : decode cX8_worst 39 = .ok (.iload 5, 2) := by decide +kernel
theorem dX8_worst_41 : decode cX8_worst 41 = .ok (.invokevirtual 288, 3) := by decide +kernel
theorem dX8_worst_44 : decode cX8_worst 44 = .ok (.aload_n 0, 1) := by decide +kernel
theorem dX8_worst_45 : decode cX8_worst 45 = .ok (.getfield 258, 3) := by decide +kernel
theorem dX8_worst_48 : decode cX8_worst 48 = .ok (.iload_n 3, 1) := by decide +kernel
theorem dX8_worst_49 : decode cX8_worst 49 = .ok (.if_icmp .gt 20, 3) := by decide +kernel
theorem dX8_worst_52 : decode cX8_worst 52 = .ok (.aload_n 0, 1) := by decide +kernel
theorem dX8_worst_53 : decode cX8_worst 53 = .ok (.getfield 258, 3) := by decide +kernel
theorem dX8_worst_56 : decode cX8_worst 56 = .ok (.iload_n 3, 1) := by decide +kernel
theorem dX8_worst_57 : decode cX8_worst 57 = .ok (.if_icmp .ne 26, 3) := by decide +kernel
theorem dX8_worst_60 : decode cX8_worst 60 = .ok (.aload_n 0, 1) := by decide +kernel
theorem dX8_worst_61 : decode cX8_worst 61 = .ok (.getfield 255, 3) := by decide +kernel
theorem dX8_worst_64 : decode cX8_worst 64 = .ok (.iload 4, 2) := by decide +kernel
theorem dX8_worst_66 : decode cX8_worst 66 = .ok (.if_icmp .le 17, 3) := by decide +kernel
theorem dX8_worst_69 : decode cX8_worst 69 = .ok (.iload 5, 2) := by decide +kernel
theorem dX8_worst_71 : decode cX8_worst 71 = .ok (.istore_n 2, 1) := by decide +kernel
theorem dX8_worst_72 : decode cX8_worst 72 = .ok (.aload_n 0, 1) := by decide +kernel
theorem dX8_worst_73 : decode cX8_worst 73 = .ok (.getfield 258, 3) := by decide +kernel
theorem dX8_worst_76 : decode cX8_worst 76 = .ok (.istore_n 3, 1) := by decide +kernel
theorem dX8_worst_77 : decode cX8_worst 77 = .ok (.aload_n 0, 1) := by decide +kernel
theorem dX8_worst_78 : decode cX8_worst 78 = .ok (.getfield 255, 3) := by decide +kernel
theorem dX8_worst_81 : decode cX8_worst 81 = .ok (.istore 4, 2) := by decide +kernel
theorem dX8_worst_83 : decode cX8_worst 83 = .ok (.iinc 5 1, 3) := by decide +kernel
theorem dX8_worst_86 : decode cX8_worst 86 = .ok (.goto (-59), 3) := by decide +kernel
theorem dX8_worst_89 : decode cX8_worst 89 = .ok (.iload_n 1, 1) := by decide +kernel
theorem dX8_worst_90 : decode cX8_worst 90 = .ok (.ifCond .ne 7, 3) := by decide +kernel
theorem dX8_worst_93 : decode cX8_worst 93 = .ok (.iload_n 2, 1) := by decide +kernel
theorem dX8_worst_94 : decode cX8_worst 94 = .ok (.goto 14, 3) := by decide +kernel
theorem dX8_worst_97 : decode cX8_worst 97 = .ok (.iload_n 1, 1) := by decide +kernel
theorem dX8_worst_98 : decode cX8_worst 98 = .ok (.iconst 1, 1) := by decide +kernel
theorem dX8_worst_99 : decode cX8_worst 99 = .ok (.if_icmp .ne 7, 3) := by decide +kernel
theorem dX8_worst_102 : decode cX8_worst 102 = .ok (.iload_n 3, 1) := by decide +kernel
theorem dX8_worst_103 : decode cX8_worst 103 = .ok (.goto 5, 3) := by decide +kernel
theorem dX8_worst_106 : decode cX8_worst 106 = .ok (.iload 4, 2) := by decide +kernel
theorem dX8_worst_108 : decode cX8_worst 108 = .ok (.ireturn, 1) := by decide +kernel
set_option maxHeartbeats 4000000 in
set_option maxRecDepth 100000 in
theorem m_X8_worst (l : Launch) (w : Int) (mem : Mem) (hw : i32 w) (hN1 : 0 ≤ mem 1 1 ∧ mem 1 1 ≤ 5) (hN : 0 ≤ mem 1 0 ∧ mem 1 0 ≤ 8) (hVl : ∀ i : Nat, (i : Int) < mem 1 0 → 1 ≤ mem 1 (3 + i) ∧ mem 1 (3 + i) ≤ 500) (hN2 : 0 ≤ mem 1 2 ∧ mem 1 2 ≤ 40) (hR : ∀ b, i32 (mem 1 b)) (hAb : ∀ s : Nat, (s : Int) < mem 1 2 → 0 ≤ abvS (mem 1) s ∧ abvS (mem 1) s ≤ 2500) (hG : ∀ s : Nat, (s : Int) < mem 1 2 → ∀ k : Nat, k < 8 → 0 ≤ sGiven (mem 1) s k ∧ sGiven (mem 1) s k ≤ 5) (hTl : ∀ k : Nat, k < 8 → 0 ≤ mem 1 (11 + k) ∧ mem 1 (11 + k) ≤ 99) : Ret shp l yX8_worst cX8_worst 6 (some .int) 7 [pR 0, pI w] mem (fun rv mv => ∃ z, rv = some (pI z) ∧ Keep mem mv ∧ z = if 0 ≤ w ∧ w ≤ 2 then (if w = 0 then (worstF mem (mem 1 1).toNat).1 else if w = 1 then (worstF mem (mem 1 1).toNat).2.1 else (worstF mem (mem 1 1).toNat).2.2) else -1) := by
  refine ret_of (by decide +kernel) (Nat.le_of_ble_eq_true rfl) (fun X hX F G => ?_)
  show Ok shp X 6 0 [(0, pR 0), (1, pI w)] [] mem
  refine ok_iload_n F dX8_worst_0 1 rfl ?_
  refine ok_i2l F dX8_worst_1 (by first | omega | exact hR _) ?_
  refine ok_lconst (z := 0) F dX8_worst_2 rfl ?_
  refine ok_ldc2 (n := 2) F dX8_worst_3 kJ_X8_335 rfl ?_
  refine ok_calls F [pL w, pL 0, pL 2] dX8_worst_6 kM_X8_in kS_X8_in kL_X8_100 rfl (by decide) (Nat.le_of_ble_eq_true rfl) rfl (m_X8_in _ w 0 2 mem (by omega) (by omega) (by omega)) ?_
  rintro _ _ ⟨rfl, rfl⟩
  refine ok_if_ne F 14 dX8_worst_9 (by decide) (by first | omega | exact hR _) (fun c_1 => ?_) (fun c_1 => ?_)
  · refine ok_bipush F dX8_worst_14 rfl ?_
    refine ok_istore_n (lv' := [(2, pI (-2)), (0, pR 0), (1, pI w)]) F dX8_worst_16 (by decide) rfl ?_
    refine ok_bipush F dX8_worst_17 rfl ?_
    refine ok_istore_n (lv' := [(3, pI (-2)), (2, pI (-2)), (0, pR 0), (1, pI w)]) F dX8_worst_19 (by decide) rfl ?_
    refine ok_bipush F dX8_worst_20 rfl ?_
    refine ok_istore (lv' := [(4, pI (-2)), (3, pI (-2)), (2, pI (-2)), (0, pR 0), (1, pI w)]) F dX8_worst_22 (by decide) rfl ?_
    refine ok_iconst F dX8_worst_24 ?_
    refine ok_istore (lv' := [(5, pI 0), (4, pI (-2)), (3, pI (-2)), (2, pI (-2)), (0, pR 0), (1, pI w)]) F dX8_worst_25 (by decide) rfl ?_
    have hL_27 : ∀ (n_27 : Nat) (b : Int) (c : Int) (e : Int) (d : Int) (m : Mem), (0 ≤ d ∧ d ≤ mem 1 1 ∧ (∀ a, a ≠ 0 → a ≠ 8 → a ≠ 9 → a ≠ 11 → a ≠ 14 → a ≠ 15 → a ≠ 16 → m a = mem a) ∧ (∀ j, (j < 21 ∨ 26 < j) → m 0 j = mem 0 j) ∧ (b = (worstF mem d.toNat).1 ∧ c = (worstF mem d.toNat).2.1 ∧ e = (worstF mem d.toNat).2.2) ∧ -2 ≤ c ∧ c ≤ 40 ∧ -2 ≤ e ∧ e ≤ 40000000) → (mem 1 1 - d).toNat = n_27 → Ok shp X 6 27 [(0, pR 0), (1, pI w), (2, pI b), (3, pI c), (4, pI e), (5, pI d)] [] m := by
      intro n_27
      induction n_27 using Nat.strongRecOn with
      | _ n_27 ih_27 =>
        intro b c e d m hI_27 hn_27
        obtain ⟨hd0, hd1, hF, hF0, ⟨hb1, hb2, hb3⟩, hc1, hc2, he1, he2⟩ := hI_27
        have h1 := hF 1 (by decide) (by decide) (by decide) (by decide) (by decide) (by decide) (by decide)
        refine ok_iload F dX8_worst_27 5 rfl ?_
        refine ok_aload_n F dX8_worst_29 0 rfl ?_
        refine ok_getr F dX8_worst_30 kF_X8_9 sh_0 rfl ?_
        refine ok_iconst F dX8_worst_33 ?_
        refine ok_iald (v := mem 1 1) F dX8_worst_34 sh_1 (by first | decide | assumption) (by first | omega | exact hR _) (by first | omega | exact hR _) (by rw [h1] <;> rfl) ?_
        refine ok_icmp_ge F 89 dX8_worst_35 (by decide) (by first | omega | exact hR _) (by first | omega | exact hR _) (fun c_2 => ?_) (fun c_2 => ?_)
        · refine ok_iload_n F dX8_worst_89 1 rfl ?_
          refine ok_if_ne F 97 dX8_worst_90 (by decide) (by first | omega | exact hR _) (fun c_3 => ?_) (fun c_3 => ?_)
          · refine ok_iload_n F dX8_worst_97 1 rfl ?_
            refine ok_iconst F dX8_worst_98 ?_
            refine ok_icmp_ne F 106 dX8_worst_99 (by decide) (by first | omega | exact hR _) (by first | omega | exact hR _) (fun c_4 => ?_) (fun c_4 => ?_)
            · refine ok_iload F dX8_worst_106 4 rfl ?_
              refine ok_iret F G dX8_worst_108 ?_
              have ed : mem 1 1 = d := by omega
              refine ⟨_, rfl, Keep.f7 hF hF0, ?_⟩
              rw [if_pos (by omega), ed]
              first | (rw [if_pos (by omega)]; exact hb1) | (rw [if_neg (by omega), if_pos (by omega)]; exact hb2) | (rw [if_neg (by omega), if_neg (by omega)]; exact hb3)
            · refine ok_iload_n F dX8_worst_102 3 rfl ?_
              refine ok_goto F 108 dX8_worst_103 (by decide) ?_
              refine ok_iret F G dX8_worst_108 ?_
              have ed : mem 1 1 = d := by omega
              refine ⟨_, rfl, Keep.f7 hF hF0, ?_⟩
              rw [if_pos (by omega), ed]
              first | (rw [if_pos (by omega)]; exact hb1) | (rw [if_neg (by omega), if_pos (by omega)]; exact hb2) | (rw [if_neg (by omega), if_neg (by omega)]; exact hb3)
          · refine ok_iload_n F dX8_worst_93 2 rfl ?_
            refine ok_goto F 108 dX8_worst_94 (by decide) ?_
            refine ok_iret F G dX8_worst_108 ?_
            have ed : mem 1 1 = d := by omega
            refine ⟨_, rfl, Keep.f7 hF hF0, ?_⟩
            rw [if_pos (by omega), ed]
            first | (rw [if_pos (by omega)]; exact hb1) | (rw [if_neg (by omega), if_pos (by omega)]; exact hb2) | (rw [if_neg (by omega), if_neg (by omega)]; exact hb3)
        · refine ok_aload_n F dX8_worst_38 0 rfl ?_
          refine ok_iload F dX8_worst_39 5 rfl ?_
          refine ok_callv F [pI d] dX8_worst_41 kM_X8_livesNow kI_X8_livesNow kV_X8_livesNow kL_X8_288 (ci := 8) rfl sh_0 rfl (by decide) (Nat.le_of_ble_eq_true rfl) rfl (m_X8_livesNow _ d m (by omega) (by rw [h1]; exact hN) (by rw [h1]; exact hVl) (by rw [h1]; exact hN2) (by rw [h1]; exact hR) (by rw [h1]; exact hAb) (by rw [h1]; exact hG) (by rw [h1]; exact hTl)) ?_
          rintro _ m_6 ⟨rfl, r_7⟩
          obtain ⟨q1, q2, nu, q3⟩ := id r_7
          have hcg := (lifeD_congr (m := m) (mem := mem) (d := d) h1 hN.2).2.2
          have s21 : m_6 0 21 = (lifeD mem d).2.2.1 := by rw [q3.2.2.1, hcg]
          have s22 : m_6 0 22 = (lifeD mem d).2.2.2.1 := by rw [q3.2.2.2.1, hcg]
          have hB := lifeD_bd (d := d) hN.2 hTl hG
          obtain ⟨-, -, b3, -⟩ := hB
          have hpc := lifeN_pc (m1 := mem 1) (d := d) (L := life0 (tillW mem) (mem 16)) rfl (mem 1 2).toNat
          have hpc2 : 0 ≤ (lifeD mem d).2.2.2.1 ∧ (lifeD mem d).2.2.2.1 ≤ ((mem 1 2).toNat : Int) * 1000000 := hpc
          rw [← s21] at b3
          rw [← s22] at hpc2
          refine ok_aload_n F dX8_worst_44 0 rfl ?_
          refine ok_getf (v := m_6 0 21) F dX8_worst_45 kF_X8_258 sh_0 rfl rfl ?_
          refine ok_iload_n F dX8_worst_48 3 rfl ?_
          refine ok_icmp_gt F 69 dX8_worst_49 (by decide) (by first | omega | exact hR _) (by first | omega | exact hR _) (fun c_8 => ?_) (fun c_8 => ?_)
          · refine ok_iload F dX8_worst_69 5 rfl ?_
            refine ok_istore_n (lv' := [(2, pI d), (0, pR 0), (1, pI w), (3, pI c), (4, pI e), (5, pI d)]) F dX8_worst_71 (by decide) rfl ?_
            refine ok_aload_n F dX8_worst_72 1 rfl ?_
            refine ok_getf (v := m_6 0 21) F dX8_worst_73 kF_X8_258 sh_0 rfl rfl ?_
            refine ok_istore_n (lv' := [(3, pI (m_6 0 21)), (2, pI d), (0, pR 0), (1, pI w), (4, pI e), (5, pI d)]) F dX8_worst_76 (by decide) rfl ?_
            refine ok_aload_n F dX8_worst_77 2 rfl ?_
            refine ok_getf (v := m_6 0 22) F dX8_worst_78 kF_X8_255 sh_0 rfl rfl ?_
            refine ok_istore (lv' := [(4, pI (m_6 0 22)), (3, pI (m_6 0 21)), (2, pI d), (0, pR 0), (1, pI w), (5, pI d)]) F dX8_worst_81 (by decide) rfl ?_
            refine ok_iinc (lv' := [(5, pI (d + 1)), (4, pI (m_6 0 22)), (3, pI (m_6 0 21)), (2, pI d), (0, pR 0), (1, pI w)]) F dX8_worst_83 5 rfl (by decide) rfl ?_
            refine ok_goto F 27 dX8_worst_86 (by decide) ?_
            refine ok_lvp [4, 5, 3, 2, 1, 0] (lv' := [(0, pR 0), (1, pI w), (2, pI d), (3, pI (m_6 0 21)), (4, pI (m_6 0 22)), (5, pI (d + 1))]) rfl ?_
            refine ih_27 _ ?_ d (m_6 0 21) (m_6 0 22) (d + 1) m_6 ?_ rfl
            · omega
            · refine ⟨by omega, by omega, fun a a0 a1 a2 a3 a4 a5 a6 => by rw [q1 a a0 a1 a2 a3 a4 a5 a6, hF a a0 a1 a2 a3 a4 a5 a6], fun i hi => by rw [q2 i hi, hF0 i hi], ?_, by omega, by omega, by omega, by omega⟩
              rw [worstF_s _ hd0]
              first
                | (rw [if_pos (by omega)]; exact ⟨rfl, by dsimp only; omega, by dsimp only; omega⟩)
                | (rw [if_neg (by omega)]; exact ⟨hb1, hb2, hb3⟩)
          · refine ok_aload_n F dX8_worst_52 0 rfl ?_
            refine ok_getf (v := m_6 0 21) F dX8_worst_53 kF_X8_258 sh_0 rfl rfl ?_
            refine ok_iload_n F dX8_worst_56 3 rfl ?_
            refine ok_icmp_ne F 83 dX8_worst_57 (by decide) (by first | omega | exact hR _) (by first | omega | exact hR _) (fun c_9 => ?_) (fun c_9 => ?_)
            · refine ok_iinc (lv' := [(5, pI (d + 1)), (0, pR 0), (1, pI w), (2, pI b), (3, pI c), (4, pI e)]) F dX8_worst_83 5 rfl (by decide) rfl ?_
              refine ok_goto F 27 dX8_worst_86 (by decide) ?_
              refine ok_lvp [1, 2, 3, 4, 5, 0] (lv' := [(0, pR 0), (1, pI w), (2, pI b), (3, pI c), (4, pI e), (5, pI (d + 1))]) rfl ?_
              refine ih_27 _ ?_ b c e (d + 1) m_6 ?_ rfl
              · omega
              · refine ⟨by omega, by omega, fun a a0 a1 a2 a3 a4 a5 a6 => by rw [q1 a a0 a1 a2 a3 a4 a5 a6, hF a a0 a1 a2 a3 a4 a5 a6], fun i hi => by rw [q2 i hi, hF0 i hi], ?_, by omega, by omega, by omega, by omega⟩
                rw [worstF_s _ hd0]
                first
                  | (rw [if_pos (by omega)]; exact ⟨rfl, by dsimp only; omega, by dsimp only; omega⟩)
                  | (rw [if_neg (by omega)]; exact ⟨hb1, hb2, hb3⟩)
            · refine ok_aload_n F dX8_worst_60 0 rfl ?_
              refine ok_getf (v := m_6 0 22) F dX8_worst_61 kF_X8_255 sh_0 rfl rfl ?_
              refine ok_iload F dX8_worst_64 4 rfl ?_
              refine ok_icmp_le F 83 dX8_worst_66 (by decide) (by first | omega | exact hR _) (by first | omega | exact hR _) (fun c_10 => ?_) (fun c_10 => ?_)
              · refine ok_iinc (lv' := [(5, pI (d + 1)), (0, pR 0), (1, pI w), (2, pI b), (3, pI c), (4, pI e)]) F dX8_worst_83 5 rfl (by decide) rfl ?_
                refine ok_goto F 27 dX8_worst_86 (by decide) ?_
                refine ok_lvp [1, 2, 3, 4, 5, 0] (lv' := [(0, pR 0), (1, pI w), (2, pI b), (3, pI c), (4, pI e), (5, pI (d + 1))]) rfl ?_
                refine ih_27 _ ?_ b c e (d + 1) m_6 ?_ rfl
                · omega
                · refine ⟨by omega, by omega, fun a a0 a1 a2 a3 a4 a5 a6 => by rw [q1 a a0 a1 a2 a3 a4 a5 a6, hF a a0 a1 a2 a3 a4 a5 a6], fun i hi => by rw [q2 i hi, hF0 i hi], ?_, by omega, by omega, by omega, by omega⟩
                  rw [worstF_s _ hd0]
                  first
                    | (rw [if_pos (by omega)]; exact ⟨rfl, by dsimp only; omega, by dsimp only; omega⟩)
                    | (rw [if_neg (by omega)]; exact ⟨hb1, hb2, hb3⟩)
              · refine ok_iload F dX8_worst_69 5 rfl ?_
                refine ok_istore_n (lv' := [(2, pI d), (0, pR 0), (1, pI w), (3, pI c), (4, pI e), (5, pI d)]) F dX8_worst_71 (by decide) rfl ?_
                refine ok_aload_n F dX8_worst_72 1 rfl ?_
                refine ok_getf (v := m_6 0 21) F dX8_worst_73 kF_X8_258 sh_0 rfl rfl ?_
                refine ok_istore_n (lv' := [(3, pI (m_6 0 21)), (2, pI d), (0, pR 0), (1, pI w), (4, pI e), (5, pI d)]) F dX8_worst_76 (by decide) rfl ?_
                refine ok_aload_n F dX8_worst_77 2 rfl ?_
                refine ok_getf (v := m_6 0 22) F dX8_worst_78 kF_X8_255 sh_0 rfl rfl ?_
                refine ok_istore (lv' := [(4, pI (m_6 0 22)), (3, pI (m_6 0 21)), (2, pI d), (0, pR 0), (1, pI w), (5, pI d)]) F dX8_worst_81 (by decide) rfl ?_
                refine ok_iinc (lv' := [(5, pI (d + 1)), (4, pI (m_6 0 22)), (3, pI (m_6 0 21)), (2, pI d), (0, pR 0), (1, pI w)]) F dX8_worst_83 5 rfl (by decide) rfl ?_
                refine ok_goto F 27 dX8_worst_86 (by decide) ?_
                refine ok_lvp [4, 5, 3, 2, 1, 0] (lv' := [(0, pR 0), (1, pI w), (2, pI d), (3, pI (m_6 0 21)), (4, pI (m_6 0 22)), (5, pI (d + 1))]) rfl ?_
                refine ih_27 _ ?_ d (m_6 0 21) (m_6 0 22) (d + 1) m_6 ?_ rfl
                · omega
                · refine ⟨by omega, by omega, fun a a0 a1 a2 a3 a4 a5 a6 => by rw [q1 a a0 a1 a2 a3 a4 a5 a6, hF a a0 a1 a2 a3 a4 a5 a6], fun i hi => by rw [q2 i hi, hF0 i hi], ?_, by omega, by omega, by omega, by omega⟩
                  rw [worstF_s _ hd0]
                  first
                    | (rw [if_pos (by omega)]; exact ⟨rfl, by dsimp only; omega, by dsimp only; omega⟩)
                    | (rw [if_neg (by omega)]; exact ⟨hb1, hb2, hb3⟩)
    refine ok_lvp [4, 5, 3, 2, 1, 0] (lv' := [(0, pR 0), (1, pI w), (2, pI (-2)), (3, pI (-2)), (4, pI (-2)), (5, pI 0)]) rfl ?_
    refine hL_27 _ (-2) (-2) (-2) 0 mem ?_ rfl
    exact ⟨by omega, by omega, fun _ _ _ _ _ _ _ _ => rfl, fun _ _ => rfl, ⟨rfl, rfl, rfl⟩, by omega, by omega, by omega, by omega⟩
  · refine ok_iconst F dX8_worst_12 ?_
    refine ok_iret F G dX8_worst_13 ?_
    exact ⟨_, rfl, Keep.rf _, by rw [if_neg (by omega)]⟩
