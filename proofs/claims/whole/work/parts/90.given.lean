/-! the class: a sale read -/
theorem sG_bad {g : Mem} {F : Int} (h : sD g 0 9 = F) (hF : F ≠ -1) : sG g 0 9 = F := by
  have e : sE g 0 9 = F := by
    unfold sE
    rw [mset_ne (by decide)]; exact h
  have n : numM (sE g) 1 500 0 9 = F := by rw [numM_bad (by rw [e]; exact hF), e]
  have a : qA (sE g) 0 9 = F := by rw [qA_bad (by rw [n]; exact hF), n]
  have b : qB (sE g) 0 0 9 = F := by rw [qB_bad (by rw [a]; exact hF), a]
  have p : (sF g).1 0 9 = F := pc_stop b hF 6
  unfold sG
  rw [if_neg (fun q => hF (by rw [p] at q; exact q.1)), p]
theorem sG_pc {g : Mem} {F : Int} (h : (sF g).1 0 9 = F) (hF : F ≠ -1) : sG g 0 9 = F := by
  unfold sG
  rw [if_neg (fun q => hF (by rw [h] at q; exact q.1)), h]
theorem sale_9 {g : Mem} {p : Int} (hB : sB g p = g) (h9 : g 0 9 = -1) : saleM g p = mset (sG g) 2 2 (sG g 2 2 + 1) := by
  unfold saleM
  rw [hB, if_pos h9]
theorem dX4_readGiven_0 : decode cX4_readGiven 0 = .ok (.aload_n 0, 1) := by decide +kernel
theorem dX4_readGiven_1 : decode cX4_readGiven 1 = .ok (.getfield 12, 3) := by decide +kernel
theorem dX4_readGiven_4 : decode cX4_readGiven 4 = .ok (.iload_n 1, 1) := by decide +kernel
theorem dX4_readGiven_5 : decode cX4_readGiven 5 = .ok (.invokevirtual 141, 3) := by decide +kernel
theorem dX4_readGiven_8 : decode cX4_readGiven 8 = .ok (.istore_n 2, 1) := by decide +kernel
theorem dX4_readGiven_9 : decode cX4_readGiven 9 = .ok (.iconst 0, 1) := by decide +kernel
theorem dX4_readGiven_10 : decode cX4_readGiven 10 = .ok (.istore_n 3, 1) := by decide +kernel
theorem dX4_readGiven_11 : decode cX4_readGiven 11 = .ok (.iconst 0, 1) := by decide +kernel
theorem dX4_readGiven_12 : decode cX4_readGiven 12 = .ok (.istore 4, 2) := by decide +kernel
theorem dX4_readGiven_14 : decode cX4_readGiven 14 = .ok (.iload 4, 2) := by decide +kernel
theorem dX4_readGiven_16 : decode cX4_readGiven 16 = .ok (.iconst 5, 1) := by decide +kernel
theorem dX4_readGiven_17 : decode cX4_readGiven 17 = .ok (.if_icmp .gt 92, 3) := by decide +kernel
theorem dX4_readGiven_20 : decode cX4_readGiven 20 = .ok (.aload_n 0, 1) := by decide +kernel
theorem dX4_readGiven_21 : decode cX4_readGiven 21 = .ok (.invokevirtual 84, 3) := by decide +kernel
theorem dX4_readGiven_24 : decode cX4_readGiven 24 = .ok (.ifCond .ne 5, 3) := by decide +kernel
theorem dX4_readGiven_27 : decode cX4_readGiven 27 = .ok (.iconst 0, 1) := by decide +kernel
theorem dX4_readGiven_28 : decode cX4_readGiven 28 = .ok (.ireturn, 1) := by decide +kernel
theorem dX4_readGiven_29 : decode cX4_readGiven 29 = .ok (.aload_n 0, 1) := by decide +kernel
theorem dX4_readGiven_30 : decode cX4_readGiven 30 = .ok (.getfield 12, 3) := by decide +kernel
theorem dX4_readGiven_33 : decode cX4_readGiven 33 = .ok (.aload_n 0, 1) := by decide +kernel
theorem dX4_readGiven_34 : decode cX4_readGiven 34 = .ok (.getfield 81, 3) := by decide +kernel
theorem dX4_readGiven_37 : decode cX4_readGiven 37 = .ok (.invokevirtual 144, 3) := by decide +kernel
theorem dX4_readGiven_40 : decode cX4_readGiven 40 = .ok (.istore 5, 2) := by decide +kernel
theorem dX4_readGiven_42 : decode cX4_readGiven 42 = .ok (.iload 5, 2) := by decide +kernel
theorem dX4_readGiven_44 : decode cX4_readGiven 44 = .ok (.ifCond .ge 13, 3) := by decide +kernel
theorem dX4_readGiven_47 : decode cX4_readGiven 47 = .ok (.aload_n 0, 1) := by decide +kernel
theorem dX4_readGiven_48 : decode cX4_readGiven 48 = .ok (.aload_n 0, 1) := by decide +kernel
theorem dX4_readGiven_49 : decode cX4_readGiven 49 = .ok (.getfield 63, 3) := by decide +kernel
theorem dX4_readGiven_52 : decode cX4_readGiven 52 = .ok (.iconst 2, 1) := by decide +kernel
theorem dX4_readGiven_53 : decode cX4_readGiven 53 = .ok (.invokevirtual 59, 3) := by decide +kernel
theorem dX4_readGiven_56 : decode cX4_readGiven 56 = .ok (.ireturn, 1) := by decide +kernel
theorem dX4_readGiven_57 : decode cX4_readGiven 57 = .ok (.iload 4, 2) := by decide +kernel
theorem dX4_readGiven_59 : decode cX4_readGiven 59 = .ok (.iconst 5, 1) := by decide +kernel
theorem dX4_readGiven_60 : decode cX4_readGiven 60 = .ok (.if_icmp .lt 13, 3) := by decide +kernel
theorem dX4_readGiven_63 : decode cX4_readGiven 63 = .ok (.aload_n 0, 1) := by decide +kernel
theorem dX4_readGiven_64 : decode cX4_readGiven 64 = .ok (.aload_n 0, 1) := by decide +kernel
theorem dX4_readGiven_65 : decode cX4_readGiven 65 = .ok (.getfield 63, 3) := by decide +kernel
theorem dX4_readGiven_68 : decode cX4_readGiven 68 = .ok (.iconst 3, 1) := by decide +kernel
theorem dX4_readGiven_69 : decode cX4_readGiven 69 = .ok (.invokevirtual 59, 3) := by decide +kernel
theorem dX4_readGiven_72 : decode cX4_readGiven 72 = .ok (.ireturn, 1) := by decide +kernel
theorem dX4_readGiven_73 : decode cX4_readGiven 73 = .ok (.aload_n 0, 1) := by decide +kernel
theorem dX4_readGiven_74 : decode cX4_readGiven 74 = .ok (.getfield 12, 3) := by decide +kernel
theorem dX4_readGiven_77 : decode cX4_readGiven 77 = .ok (.iload_n 2, 1) := by decide +kernel
theorem dX4_readGiven_78 : decode cX4_readGiven 78 = .ok (.iload 5, 2) := by decide +kernel
theorem dX4_readGiven_80 : decode cX4_readGiven 80 = .ok (.invokevirtual 147, 3) := by decide +kernel
theorem dX4_readGiven_83 : decode cX4_readGiven 83 = .ok (.iload_n 3, 1) := by decide +kernel
theorem dX4_readGiven_84 : decode cX4_readGiven 84 = .ok (.aload_n 0, 1) := by decide +kernel
theorem dX4_readGiven_85 : decode cX4_readGiven 85 = .ok (.getfield 81, 3) := by decide +kernel
theorem dX4_readGiven_88 : decode cX4_readGiven 88 = .ok (.iadd, 1) := by decide +kernel
theorem dX4_readGiven_89 : decode cX4_readGiven 89 = .ok (.istore_n 3, 1) := by decide +kernel
theorem dX4_readGiven_90 : decode cX4_readGiven 90 = .ok (.aload_n 0, 1) := by decide +kernel
theorem dX4_readGiven_91 : decode cX4_readGiven 91 = .ok (.invokevirtual 48, 3) := by decide +kernel
theorem dX4_readGiven_94 : decode cX4_readGiven 94 = .ok (.invokestatic 78, 3) := by decide +kernel
theorem dX4_readGiven_97 : decode cX4_readGiven 97 = .ok (.ifCond .ne 6, 3) := by decide +kernel
theorem dX4_readGiven_100 : decode cX4_readGiven 100 = .ok (.goto 9, 3) := by decide +kernel
theorem dX4_readGiven_103 : decode cX4_readGiven 103 = .ok (.iinc 4 1, 3) := by decide +kernel
theorem dX4_readGiven_106 : decode cX4_readGiven 106 = .ok (.goto (-92), 3) := by decide +kernel
theorem dX4_readGiven_109 : decode cX4_readGiven 109 = .ok (.iload_n 3, 1) := by decide +kernel
theorem dX4_readGiven_110 : decode cX4_readGiven 110 = .ok (.iload_n 1, 1) := by decide +kernel
theorem dX4_readGiven_111 : decode cX4_readGiven 111 = .ok (.if_icmp .ge 13, 3) := by decide +kernel
theorem dX4_readGiven_114 : decode cX4_readGiven 114 = .ok (.aload_n 0, 1) := by decide +kernel
theorem dX4_readGiven_115 : decode cX4_readGiven 115 = .ok (.aload_n 0, 1) := by decide +kernel
theorem dX4_readGiven_116 : decode cX4_readGiven 116 = .ok (.getfield 63, 3) := by decide +kernel
theorem dX4_readGiven_119 : decode cX4_readGiven 119 = .ok (.iconst 4, 1) := by decide +kernel
theorem dX4_readGiven_120 : decode cX4_readGiven 120 = .ok (.invokevirtual 59, 3) := by decide +kernel
theorem dX4_readGiven_123 : decode cX4_readGiven 123 = .ok (.ireturn, 1) := by decide +kernel
theorem dX4_readGiven_124 : decode cX4_readGiven 124 = .ok (.aload_n 0, 1) := by decide +kernel
theorem dX4_readGiven_125 : decode cX4_readGiven 125 = .ok (.getfield 12, 3) := by decide +kernel
theorem dX4_readGiven_128 : decode cX4_readGiven 128 = .ok (.invokevirtual 151, 3) := by decide +kernel
theorem dX4_readGiven_131 : decode cX4_readGiven 131 = .ok (.iconst 1, 1) := by decide +kernel
theorem dX4_readGiven_132 : decode cX4_readGiven 132 = .ok (.ireturn, 1) := by decide +kernel
set_option maxHeartbeats 4000000 in
set_option maxRecDepth 100000 in
theorem m_X4_readGiven (l : Launch) (g : Mem) (p : Int) (pr : Int) (mem : Mem) (hp0 : sB g p = g) (hg9 : g 0 9 = -1) (hT : RT (sE g) mem) (hE9 : sE g 0 9 = -1) (hE7 : sE g 7 = g 7) (hE2 : ∀ j : Nat, sE g 2 j = if j = 59 + 10 * (g 2 2).toNat then g 2 1 - 1 else if j = 60 + 10 * (g 2 2).toNat then pr else g 2 j) (hR : RS mem 32 (g 2)) (hGR : GR (g 2)) (hZ : ∀ j : Nat, 59 + 10 * (g 2 2).toNat ≤ j → g 2 j = 0) (a6 : 0 ≤ mem 175 6 ∧ mem 175 6 ≤ 15) (a7 : ∀ r : Nat, r < 4 → iand (ishr (mem 175 6) (r : Int)) 1 = g 7 r) (a8 : ∀ r : Nat, g 7 r = 0 ∨ g 7 r = 1) (h1 : 1 ≤ g 2 1) (h2 : g 2 2 < 40) (hk1 : 1 ≤ g 2 0) (hpr : 1 ≤ pr ∧ pr ≤ 1000) : Ret shp l yX4_readGiven cX4_readGiven 6 (some .boolean) 3 [pR 175, pI pr] mem (fun rv mv => ∃ z, rv = some (pI z) ∧ (∀ c, (c < 32 ∨ 42 < c) → c ≠ 175 → mv c = mem c) ∧ (z = 1 ∧ RH (saleM g p) mv ∧ (saleM g p) 2 0 = g 2 0 ∧ mv 175 7 = mem 175 7 ∨ z = 0 ∧ (saleM g p) 0 9 ≠ -1 ∧ mv 175 7 = (saleM g p) 0 9)) := by
  refine ret_of (by decide +kernel) (Nat.le_of_ble_eq_true rfl) (fun X hX F G => ?_)
  show Ok shp X 6 0 [(0, pR 175), (1, pI pr)] [] mem
  have hall := hR.all32 hGR
  have h321 : mem 32 1 = g 2 1 := hR.2.1
  have hf2 : fstD (mem 40) (mem 32 1) = g 2 2 := by rw [h321]; exact hall
  have hK := sale_9 hp0 hg9
  have gb0 := hGR.1
  have gb1 := hGR.2.1
  have gb2 := hGR.2.2.1
  have hKc : ∀ F : Int, F ≠ -1 → sG g 0 9 = F → saleM g p 0 9 = F := fun F hF h => by rw [hK, mset_nk (by decide)]; exact h
  refine ok_aload_n F dX4_readGiven_0 0 rfl ?_
  refine ok_getr F dX4_readGiven_1 kF_X4_12 sh_175 rfl ?_
  refine ok_iload_n F dX4_readGiven_4 1 rfl ?_
  refine ok_callv F [pI pr] dX4_readGiven_5 kM_X6_openSale kI_X6_openSale kV_X6_openSale kL_X4_141 (ci := 6) rfl sh_32 rfl (by decide) (Nat.le_of_ble_eq_true rfl) rfl (m_X6_openSale_32 _ pr mem (by omega) (by omega)) ?_
  rintro _ m_1 ⟨rfl, e_2⟩
  have eO := e_2
  rw [hf2] at eO
  have hGv0 : GvI g (sE g) m_1 mem pr 0 0 := by
    rw [eO]
    have s42 : ∀ j : Nat, opnM mem 32 (g 2 2).toNat pr 8 42 j = if 8 * (g 2 2).toNat ≤ j ∧ j < 8 * (g 2 2).toNat + 8 then 0 else mem 42 j := fun j => by
      unfold opnM
      by_cases y : 8 * (g 2 2).toNat ≤ j ∧ j < 8 * (g 2 2).toNat + 8
      · rw [if_pos ⟨rfl, y⟩, if_pos y]
      · rw [if_neg (fun q => y q.2), if_neg y, mset_nk (by decide)]
    have s41 : ∀ j : Nat, opnM mem 32 (g 2 2).toNat pr 8 41 j = if j = (g 2 2).toNat then pr else mem 41 j := fun j => by
      unfold opnM
      rw [if_neg (by omega)]
      by_cases y : j = (g 2 2).toNat
      · rw [y, mset_eq, if_pos rfl]
      · rw [mset_ne (fun q => y q.2), if_neg y]
    have so : ∀ c, c ≠ 41 → c ≠ 42 → opnM mem 32 (g 2 2).toNat pr 8 c = mem c := fun c c1 c2 => by
      funext j
      unfold opnM
      rw [if_neg (by omega), mset_nk (by omega)]
    have z61 : ∀ k : Nat, k < 8 → sE g 2 (61 + 10 * (g 2 2).toNat + k) = 0 := fun k hk => by rw [hE2, if_neg (by omega), if_neg (by omega)]; exact hZ _ (by omega)
    refine ⟨hE9, hT.of rfl rfl hT.2.2.2.1 (so 176 (by decide) (by decide)) (by rw [so 175 (by decide) (by decide)]) (by rw [so 175 (by decide) (by decide)]; exact hT.2.2.1), hE7, fun j hj => by rw [hE2, if_neg (by omega), if_neg (by omega)], by rw [hE2, if_pos rfl], by rw [hE2, if_neg (by omega), if_pos rfl], fun j hj => by rw [hE2, if_neg (by omega), if_neg (by omega)]; exact hZ j (by omega), fun k hk => by rw [z61 k hk]; decide, ?_, by decide, fun k hk => by rw [s42, if_pos (by omega), z61 k hk], fun j hj => by rw [s42, if_neg (by omega)], s41, fun c c1 c2 _ => so c c1 c2, by rw [so 175 (by decide) (by decide)], by rw [so 175 (by decide) (by decide)]⟩
    exact (sumN_z _ (fun k hk => by
      show sE g 2 (61 + 10 * (g 2 2).toNat + k) * g 2 (3 + k) = 0
      rw [z61 k (by omega), Int.zero_mul])).symm
  refine ok_istore_n (lv' := [(2, pI (fstD (mem 40) (mem 32 1))), (0, pR 175), (1, pI pr)]) F dX4_readGiven_8 (by decide) rfl ?_
  refine ok_iconst F dX4_readGiven_9 ?_
  refine ok_istore_n (lv' := [(3, pI 0), (2, pI (fstD (mem 40) (mem 32 1))), (0, pR 175), (1, pI pr)]) F dX4_readGiven_10 (by decide) rfl ?_
  refine ok_iconst F dX4_readGiven_11 ?_
  refine ok_istore (lv' := [(4, pI 0), (3, pI 0), (2, pI (fstD (mem 40) (mem 32 1))), (0, pR 175), (1, pI pr)]) F dX4_readGiven_12 (by decide) rfl ?_
  have hL_14 : ∀ (n_14 : Nat) (w : Int) (i : Int) (m : Mem), (∃ (H : Mem) (n : Nat), (n : Int) + i = 7 ∧ sF g = pcL n i (59 + 10 * g 2 2) w H ∧ GvI g H m mem pr i w ∧ (0 ≤ i ∧ i ≤ 5)) → (10 - i).toNat = n_14 → Ok shp X 6 14 [(0, pR 175), (1, pI pr), (2, pI (fstD (mem 40) (mem 32 1))), (3, pI w), (4, pI i)] [] m := by
    intro n_14
    induction n_14 using Nat.strongRecOn with
    | _ n_14 ih_14 =>
      intro w i m hI_14 hn_14
      obtain ⟨H, n0, hn0, hSF, hGv, hib⟩ := hI_14
      obtain ⟨n, rfl⟩ : ∃ x, n0 = x + 1 := ⟨n0 - 1, by omega⟩
      have hmc := hGv.2.2.2.2.2.2.2.2.2.2.2.2.2.1
      have m320 : m 32 0 = g 2 0 := by rw [hmc 32 (by decide) (by decide) (by decide)]; exact hR.1
      have m33 : ∀ b : Nat, b < 8 → m 33 b = g 2 (3 + b) := fun b hb => by rw [hmc 33 (by decide) (by decide) (by decide)]; exact hR.2.2.1 0 (by decide) b hb
      have hwb := hGv.2.2.2.2.2.2.2.2.2.1
      have hbad : ∀ F : Int, F ≠ -1 → qB H i 0 9 = F → saleM g p 0 9 = F := fun F hF h => hKc F hF (sG_pc (by rw [hSF]; exact pc_stop h hF n) hF)
      have hfr : ∀ c, (c < 32 ∨ 42 < c) → c ≠ 175 → m c = mem c := fun c hc h5 => hmc c (by omega) (by omega) h5
      refine ok_iload F dX4_readGiven_14 4 rfl ?_
      refine ok_iconst F dX4_readGiven_16 ?_
      refine ok_icmp_gt F 109 dX4_readGiven_17 (by decide) (by omega) (by omega) (fun c_3 => ?_) (fun c_3 => ?_)
      · exfalso; omega
      · refine ok_aload_n F dX4_readGiven_20 0 rfl ?_
        refine ok_callv F [] dX4_readGiven_21 kM_X4_readNumber kI_X4_readNumber kV_X4_readNumber kL_X4_84 (ci := 4) rfl sh_175 rfl (by decide) (Nat.le_of_ble_eq_true rfl) rfl (m_X4_readNumber _ H m (hGv.2.1)) ?_
        rintro _ m_5 ⟨z_4, rfl, r_6⟩
        obtain ⟨u1, u2⟩ := id r_6
        obtain ⟨mQ, hmQ⟩ : ∃ x, x = m_5 := ⟨_, rfl⟩
        rw [← hmQ] at u1 u2
        have hz02 : z_4 = 1 ∨ z_4 = 0 := u2.elim (fun w => Or.inl w.1) (fun w => Or.inr w.1)
        refine ok_if_ne F 29 dX4_readGiven_24 (by decide) (by omega) (fun c_7 => ?_) (fun c_7 => ?_)
        · obtain ⟨_, v1, v2, v3, v4, v5⟩ := u2.resolve_right (fun q => by have := q.1; omega)
          clear u2
          obtain ⟨n1, n2, n3, n4⟩ := (numM_9 hGv.1 1 500).1 v1
          have hVb := numL_bd hGv.2.1.2.2.2.1.1.2 401 (p := ptP H) (n := 0) (by have := (pt_ok hGv.2.1.2.2.2.1).2.2.1; omega) (by omega)
          have hok1 := numM_ok hGv.2.1.2.2.2.1 1 500
          obtain ⟨x1, x2, x3, x4, x5⟩ := numM_at H 1 500
          have x12 := x1 2 (by decide)
          have hPb := (pt_ok hGv.2.1.2.2.2.1).2.2.1
          have qVe : qV H = (numL H 401 (ptP H) 0).2 := n1
          have hKr : qK H = kindAt (fun k => g 2 (3 + k)) (numL H 401 (ptP H) 0).2 (g 2 0).toNat 0 := by
            unfold qK
            rw [qVe, x12, hGv.2.2.2.1 0 (by omega)]
            exact kindAt_eq _ _ (fun k _ hk => hGv.2.2.2.1 _ (by omega))
          refine ok_aload_n F dX4_readGiven_29 0 rfl ?_
          refine ok_getr F dX4_readGiven_30 kF_X4_12 sh_175 rfl ?_
          refine ok_aload_n F dX4_readGiven_33 0 rfl ?_
          refine ok_getf (v := m_5 175 5) F dX4_readGiven_34 kF_X4_81 sh_175 rfl rfl ?_
          refine ok_callv F [pI (m_5 175 5)] dX4_readGiven_37 kM_X6_kindWorth kI_X6_kindWorth kV_X6_kindWorth kL_X4_144 (ci := 6) rfl sh_32 rfl (by decide) (Nat.le_of_ble_eq_true rfl) rfl (m_X6_kindWorth _ (m_5 175 5) m_5 (by rw [← hmQ, v4]; omega) (by rw [← hmQ, u1 32 (by decide), m320]; exact gb0) (fun b hb => by rw [← hmQ, u1 33 (by decide), m33 b hb]; have := hGR.2.2.2.1 b hb; omega)) ?_
          rintro _ _ ⟨rfl, rfl⟩
          refine ok_istore (lv' := [(5, pI (kindAt (fun k => m_5 33 k) (m_5 175 5) (m_5 32 0).toNat 0)), (0, pR 175), (1, pI pr), (2, pI (fstD (mem 40) (mem 32 1))), (3, pI w), (4, pI i)]) F dX4_readGiven_40 (by decide) rfl ?_
          have hKc0 : kindAt (fun k => m_5 33 k) (m_5 175 5) (m_5 32 0).toNat 0 = kindAt (fun k => g 2 (3 + k)) (mQ 175 5) (g 2 0).toNat 0 := by
            rw [← hmQ, u1 32 (by decide), m320, u1 33 (by decide)]
            exact kindAt_eq _ _ (fun k _ hk => m33 k (by omega))
          obtain ⟨kr, hkr⟩ : ∃ x, x = kindAt (fun k => g 2 (3 + k)) (mQ 175 5) (g 2 0).toNat 0 := ⟨_, rfl⟩
          have hkb := kindAt_bd (fun k => g 2 (3 + k)) (mQ 175 5) (g 2 0).toNat 0
          rw [← hkr] at hKc0 hkb
          refine ok_iload F dX4_readGiven_42 0 rfl ?_
          refine ok_if_ge F 57 dX4_readGiven_44 (by decide) (by omega) (fun c_8 => ?_) (fun c_8 => ?_)
          · have kv := kindAt_val (g := fun k => g 2 (3 + k)) (v := mQ 175 5) (g 2 0).toNat 0 (by rw [← hkr]; omega)
            rw [← hkr] at kv
            have kv2 : g 2 (3 + kr.toNat) = mQ 175 5 := kv
            have kb1 := hGR.2.2.2.2.1 kr.toNat (by omega)
            have kb2 := hGR.2.2.2.1 kr.toNat (by omega)
            have hVm : mQ 175 5 = (numL H 401 (ptP H) 0).2 := by omega
            have hVin : 1 ≤ (numL H 401 (ptP H) 0).2 ∧ (numL H 401 (ptP H) 0).2 ≤ 500 := by omega
            rw [if_pos hVin] at n3
            have hqk : qK H = kr := by rw [hKr, ← hVm, hkr]
            have hqA : qA H = numM H 1 500 := if_neg (fun q => by have := q.2; omega)
            refine ok_iload F dX4_readGiven_57 5 rfl ?_
            refine ok_iconst F dX4_readGiven_59 ?_
            refine ok_icmp_lt F 73 dX4_readGiven_60 (by decide) (by omega) (by omega) (fun c_9 => ?_) (fun c_9 => ?_)
            · refine ok_aload_n F dX4_readGiven_73 1 rfl ?_
              refine ok_getr F dX4_readGiven_74 kF_X4_12 sh_175 rfl ?_
              refine ok_iload_n F dX4_readGiven_77 3 rfl ?_
              refine ok_iload F dX4_readGiven_78 0 rfl ?_
              refine ok_callv F [pI (fstD (mem 40) (mem 32 1)), pI (kindAt (fun k => m_5 33 k) (m_5 175 5) (m_5 32 0).toNat 0)] dX4_readGiven_80 kM_X6_addGiven kI_X6_addGiven kV_X6_addGiven kL_X4_147 (ci := 6) rfl sh_32 rfl (by decide) (Nat.le_of_ble_eq_true rfl) rfl (m_X6_addGiven_32 _ (fstD (mem 40) (mem 32 1)) (kindAt (fun k => m_5 33 k) (m_5 175 5) (m_5 32 0).toNat 0) m_5 (by omega) (by omega)) ?_
              rintro _ m_10 ⟨rfl, e_11⟩
              have eG := e_11
              have e2x : m_10 = mset mQ 42 (8 * (g 2 2).toNat + kr.toNat) (mQ 42 (8 * (g 2 2).toNat + kr.toNat) + 1) := by
                rw [eG, ← hmQ]
                rw [hmQ, hKc0, hf2, show (g 2 2 * 8 + kr).toNat = 8 * (g 2 2).toNat + kr.toNat by omega]
              have hst : GvI g (qC H i (59 + 10 * g 2 2)) m_10 mem pr (i + 1) (w + mQ 175 5) := hGv.step (k0 := kr.toNat) hGR h2 (by omega) n3 (hGv.2.1.of (x1 6 (by decide)) (x2 7 (by decide) (by decide) (by decide)) hok1 (u1 176 (by decide)) (v5 2 (by decide) (by decide) (by decide)) (by rw [v3, n2])) u1 (v5 6 (by decide) (by decide) (by decide)) (v5 7 (by decide) (by decide) (by decide)) (by rw [qVe, hVm]) (by omega) (by rw [hqk]; omega) (by omega) kv2 e2x
              have hN10 : m_10 175 5 = mQ 175 5 := by rw [e2x]; exact mset_nk (by decide)
              obtain ⟨m2, hm2⟩ : ∃ x, x = m_10 := ⟨_, rfl⟩
              have hqD : qD H i (59 + 10 * g 2 2) = ptD (qC H i (59 + 10 * g 2 2)) := by
                unfold qD
                rw [if_pos hst.1]
                rfl
              have hqm : qMore H i (59 + 10 * g 2 2) = decide (qC H i (59 + 10 * g 2 2) 0 9 = -1 ∧ 48 ≤ sgn (qC H i (59 + 10 * g 2 2)) (ptP (qC H i (59 + 10 * g 2 2))) ∧ sgn (qC H i (59 + 10 * g 2 2)) (ptP (qC H i (59 + 10 * g 2 2))) ≤ 57) := rfl
              have hq9 := hst.1
              have m24 : m2 175 4 = ptP H := by rw [hm2, e2x, mset_nk (by decide)]; exact v2
              refine ok_iload_n F dX4_readGiven_83 4 rfl ?_
              refine ok_aload_n F dX4_readGiven_84 1 rfl ?_
              refine ok_getf (v := m_10 175 5) F dX4_readGiven_85 kF_X4_81 sh_175 rfl rfl ?_
              refine ok_iadd F dX4_readGiven_88 ?_
              refine ok_istore_n (lv' := [(3, pI (w + (m_10 175 5))), (5, pI (kindAt (fun k => m_5 33 k) (m_5 175 5) (m_5 32 0).toNat 0)), (0, pR 175), (1, pI pr), (2, pI (fstD (mem 40) (mem 32 1))), (4, pI i)]) F dX4_readGiven_89 (by decide) rfl ?_
              refine ok_aload_n F dX4_readGiven_90 2 rfl ?_
              refine ok_callv F [] dX4_readGiven_91 kM_X4_next kI_X4_next kV_X4_next kL_X4_48 (ci := 4) rfl sh_175 rfl (by decide) (Nat.le_of_ble_eq_true rfl) rfl (m_X4_next _ (qC H i (59 + 10 * g 2 2)) m_10 (hst.2.1)) ?_
              rintro _ m_12 ⟨rfl, e_13⟩
              have eX := e_13
              rw [← hm2] at eX
              refine ok_calls F [pI (sgn (qC H i (59 + 10 * g 2 2)) (ptP (qC H i (59 + 10 * g 2 2))))] dX4_readGiven_94 kM_X4_isDigit kS_X4_isDigit kL_X4_78 rfl (by decide) (Nat.le_of_ble_eq_true rfl) rfl (m_X4_isDigit _ (sgn (qC H i (59 + 10 * g 2 2)) (ptP (qC H i (59 + 10 * g 2 2)))) m_12 (by have := sgn_bd (qC H i (59 + 10 * g 2 2)) (ptP (qC H i (59 + 10 * g 2 2))); omega)) ?_
              rintro _ _ ⟨rfl, rfl⟩
              refine ok_if_ne F 103 dX4_readGiven_97 (by decide) (by omega) (fun c_14 => ?_) (fun c_14 => ?_)
              · have hmore : qMore H i (59 + 10 * g 2 2) = true := by rw [hqm]; exact decide_eq_true (by omega)
                have hnx : GvI g (qD H i (59 + 10 * g 2 2)) m_12 mem pr (i + 1) (w + mQ 175 5) := by
                  rw [hqD, eX]
                  exact GvI.next (by rw [hm2]; exact hst)
                refine ok_iinc (lv' := [(4, pI (i + 1)), (3, pI (w + (m_10 175 5))), (5, pI (kindAt (fun k => m_5 33 k) (m_5 175 5) (m_5 32 0).toNat 0)), (0, pR 175), (1, pI pr), (2, pI (fstD (mem 40) (mem 32 1)))]) F dX4_readGiven_103 5 rfl (by decide) rfl ?_
                refine ok_goto F 14 dX4_readGiven_106 (by decide) ?_
                refine ok_lvp [3, 4, 5, 1, 0] (lv' := [(0, pR 175), (1, pI pr), (2, pI (fstD (mem 40) (mem 32 1))), (3, pI (w + (m_10 175 5))), (4, pI (i + 1))]) rfl ?_
                refine ih_14 _ ?_ (w + (m_10 175 5)) (i + 1) m_12 ?_ rfl
                · omega
                · refine ⟨qD H i (59 + 10 * g 2 2), n, by omega, ?_, ?_, by omega⟩
                  · rw [hSF, pcL_s, if_pos hmore, qVe, ← hVm, hN10]
                  · rw [hN10]; exact hnx
              · refine ok_goto F 109 dX4_readGiven_100 (by decide) ?_
                have hmore : qMore H i (59 + 10 * g 2 2) = false := by rw [hqm]; exact decide_eq_false (by omega)
                have hnx : GvI g (qD H i (59 + 10 * g 2 2)) m_12 mem pr (i + 1) (w + mQ 175 5) := by
                  rw [hqD, eX]
                  exact GvI.next (by rw [hm2]; exact hst)
                have hFe : sF g = (qD H i (59 + 10 * g 2 2), w + mQ 175 5) := by
                  rw [hSF, pcL_s, if_neg (by rw [hmore]; decide), qVe, hVm]
                have hpr6 := hnx.2.2.2.2.2.1
                have hwn := hnx.2.2.2.2.2.2.2.2.2.1
                have x4b : m_12 175 4 = ptP H := by rw [eX, mset_ne (by decide)]; exact m24
                have h321n : m_12 32 1 = g 2 1 := by rw [hnx.2.2.2.2.2.2.2.2.2.2.2.2.2.1 32 (by decide) (by decide) (by decide)]; exact h321
                have hto : (sTo g + 1).toNat = 60 + 10 * (g 2 2).toNat := by
                  have : sTo g = 59 + 10 * g 2 2 := rfl
                  omega
                have hq10 : qD H i (59 + 10 * g 2 2) 0 10 = ptP H := by
                  have hB : qB H i = numM H 1 500 := by
                    unfold qB
                    rw [hqA, if_neg (by omega)]
                  rw [hqD]
                  have e1 : ptD (qC H i (59 + 10 * g 2 2)) 0 10 = qC H i (59 + 10 * g 2 2) 0 10 := mset_ne (by decide)
                  rw [e1, (qC_ok hGv.2.1.2.2.2.1 i (59 + 10 * g 2 2)).2.2, hB, n4]
                have hn9 := hnx.1
                have hm57 : mQ 175 5 = mQ 175 5 := rfl
                refine ok_iload_n F dX4_readGiven_109 0 rfl ?_
                refine ok_iload_n F dX4_readGiven_110 3 rfl ?_
                refine ok_icmp_ge F 124 dX4_readGiven_111 (by decide) (by omega) (by omega) (fun c_15 => ?_) (fun c_15 => ?_)
                · refine ok_aload_n F dX4_readGiven_124 2 rfl ?_
                  refine ok_getr F dX4_readGiven_125 kF_X4_12 sh_175 rfl ?_
                  refine ok_callv F [] dX4_readGiven_128 kM_X6_closeSale kI_X6_closeSale kV_X6_closeSale kL_X4_151 (ci := 6) rfl sh_32 rfl (by decide) (Nat.le_of_ble_eq_true rfl) rfl (m_X6_closeSale_32 _ m_12 (by omega)) ?_
                  rintro _ m_16 ⟨rfl, e_17⟩
                  have eC := e_17
                  refine ok_iconst F dX4_readGiven_131 ?_
                  refine ok_zret F G dX4_readGiven_132 (by first | rfl | exact zb_nar) ?_
                  have hg : sG g = qD H i (59 + 10 * g 2 2) := by
                    unfold sG
                    rw [hFe, hto]
                    rw [if_neg (fun q => by have q2 : w + mQ 175 5 < qD H i (59 + 10 * g 2 2) 2 (60 + 10 * (g 2 2).toNat) := q.2; rw [hpr6] at q2; omega)]
                  obtain ⟨k1, k2, k3⟩ := hnx.done (mv := m_16) hR hGR h1 h2 hk1 (by omega) hpr (by omega) a6 a7 a8 (by rw [eC, h321n])
                  exact ⟨_, rfl, fun c hc h5 => by rw [eC, mset_nka (by omega)]; exact hnx.2.2.2.2.2.2.2.2.2.2.2.2.2.1 c (by omega) (by omega) h5, Or.inl ⟨rfl, by rw [hK, hg]; exact k1, by rw [hK, hg]; exact k2, k3⟩⟩
                · refine ok_aload_n F dX4_readGiven_114 2 rfl ?_
                  refine ok_aload_n F dX4_readGiven_115 2 rfl ?_
                  refine ok_getf (v := m_12 175 4) F dX4_readGiven_116 kF_X4_63 sh_175 rfl rfl ?_
                  refine ok_iconst F dX4_readGiven_119 ?_
                  refine ok_callv F [pI (m_12 175 4), pI 4] dX4_readGiven_120 kM_X4_wrong kI_X4_wrong kV_X4_wrong kL_X4_59 (ci := 4) rfl sh_175 rfl (by decide) (Nat.le_of_ble_eq_true rfl) rfl (m_X4_wrong _ (m_12 175 4) 4 m_12) ?_
                  rintro _ m_18 ⟨rfl, e_19⟩
                  have eW := e_19
                  refine ok_zret F G dX4_readGiven_123 (rfl) ?_
                  have hg : sG g 0 9 = 8 * ptP H + 4 := by
                    unfold sG
                    rw [hFe, hto]
                    rw [if_pos ⟨hn9, by show w + mQ 175 5 < qD H i (59 + 10 * g 2 2) 2 (60 + 10 * (g 2 2).toNat); rw [hpr6]; omega⟩]
                    unfold flM
                    rw [if_pos hn9, mset_eq]
                    show 8 * qD H i (59 + 10 * g 2 2) 0 10 + 4 = _
                    rw [hq10]
                  have hf := hKc _ (by omega) hg
                  exact ⟨_, rfl, fun c hc h5 => by rw [eW, mset_nka h5]; exact hnx.2.2.2.2.2.2.2.2.2.2.2.2.2.1 c (by omega) (by omega) h5, Or.inr ⟨rfl, by rw [hf]; omega, by rw [hf, eW, mset_eq, x4b]⟩⟩
            · refine ok_aload_n F dX4_readGiven_63 1 rfl ?_
              refine ok_aload_n F dX4_readGiven_64 1 rfl ?_
              refine ok_getf (v := m_5 175 4) F dX4_readGiven_65 kF_X4_63 sh_175 rfl rfl ?_
              refine ok_iconst F dX4_readGiven_68 ?_
              refine ok_callv F [pI (m_5 175 4), pI 3] dX4_readGiven_69 kM_X4_wrong kI_X4_wrong kV_X4_wrong kL_X4_59 (ci := 4) rfl sh_175 rfl (by decide) (Nat.le_of_ble_eq_true rfl) rfl (m_X4_wrong _ (m_5 175 4) 3 m_5) ?_
              rintro _ m_20 ⟨rfl, e_21⟩
              have eW := e_21
              refine ok_zret F G dX4_readGiven_72 (rfl) ?_
              have qb : qB H i 0 9 = 8 * ptP H + 3 := by
                unfold qB
                rw [hqA, if_pos ⟨n3, by omega⟩]
                unfold flM
                rw [if_pos n3, mset_eq, n4]
              have hf := hbad _ (by omega) qb
              exact ⟨_, rfl, fun c hc h5 => by rw [eW, mset_nka h5, ← hmQ, u1 c h5]; exact hfr c hc h5, Or.inr ⟨rfl, by rw [hf]; omega, by rw [hf, eW, mset_eq, ← hmQ, v2]⟩⟩
          · refine ok_aload_n F dX4_readGiven_47 1 rfl ?_
            refine ok_aload_n F dX4_readGiven_48 1 rfl ?_
            refine ok_getf (v := m_5 175 4) F dX4_readGiven_49 kF_X4_63 sh_175 rfl rfl ?_
            refine ok_iconst F dX4_readGiven_52 ?_
            refine ok_callv F [pI (m_5 175 4), pI 2] dX4_readGiven_53 kM_X4_wrong kI_X4_wrong kV_X4_wrong kL_X4_59 (ci := 4) rfl sh_175 rfl (by decide) (Nat.le_of_ble_eq_true rfl) rfl (m_X4_wrong _ (m_5 175 4) 2 m_5) ?_
            rintro _ m_22 ⟨rfl, e_23⟩
            have eW := e_23
            refine ok_zret F G dX4_readGiven_56 (rfl) ?_
            have hqA9 : qA H 0 9 = 8 * ptP H + 2 := by
              unfold qA
              by_cases q : 1 ≤ (numL H 401 (ptP H) 0).2 ∧ (numL H 401 (ptP H) 0).2 ≤ 500
              · rw [if_pos q] at n3
                have e : mQ 175 5 = (numL H 401 (ptP H) 0).2 := by rw [v4]; omega
                rw [if_pos ⟨n3, by rw [hKr, ← e, ← hkr]; omega⟩]
                unfold flM
                rw [if_pos n3, mset_eq, n4]
              · rw [if_neg q] at n3
                rw [if_neg (fun w => by have := w.1; omega), n3]
            have qb : qB H i 0 9 = 8 * ptP H + 2 := by rw [qB_bad (by rw [hqA9]; omega), hqA9]
            have hf := hbad _ (by omega) qb
            exact ⟨_, rfl, fun c hc h5 => by rw [eW, mset_nka h5, ← hmQ, u1 c h5]; exact hfr c hc h5, Or.inr ⟨rfl, by rw [hf]; omega, by rw [hf, eW, mset_eq, ← hmQ, v2]⟩⟩
        · refine ok_iconst F dX4_readGiven_27 ?_
          refine ok_zret F G dX4_readGiven_28 (by first | rfl | exact zb_nar) ?_
          obtain ⟨_, nd, e7⟩ := u2.resolve_left (fun q => by have := q.1; omega)
          have n9 := (numM_9 hGv.1 1 500).2 nd
          have hPb := (pt_ok hGv.2.1.2.2.2.1).2.2.1
          have qb : qB H i 0 9 = 8 * ptP H + 1 := by rw [qB_bad (by rw [qA_bad (by rw [n9]; omega), n9]; omega), qA_bad (by rw [n9]; omega), n9]
          have hf := hbad _ (by omega) qb
          exact ⟨_, rfl, fun c hc h5 => by rw [← hmQ, u1 c h5]; exact hfr c hc h5, Or.inr ⟨rfl, by rw [hf]; omega, by rw [hf, ← hmQ]; exact e7⟩⟩
  refine ok_lvp [3, 4, 2, 1, 0] (lv' := [(0, pR 175), (1, pI pr), (2, pI (fstD (mem 40) (mem 32 1))), (3, pI 0), (4, pI 0)]) rfl ?_
  refine hL_14 _ 0 0 m_1 ?_ rfl
  exact ⟨sE g, 7, by omega, rfl, hGv0, by omega⟩
