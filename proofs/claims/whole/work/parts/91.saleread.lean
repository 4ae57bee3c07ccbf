/-! the class: a sale read, from its word on -/
theorem sB_days {g : Mem} {p : Int} (h9 : g 0 9 = -1) (hp : 0 ≤ p) (h : g 2 1 = 0) : saleM g p 0 9 = 8 * p + 1 := by
  have a : sA g p 0 9 = 8 * p + 1 := by
    unfold sA flM
    rw [if_pos h, if_pos h9, mset_eq]
  have b : sB g p 0 9 = 8 * p + 1 := by
    unfold sB
    by_cases y : g 2 2 = 40
    · rw [if_pos y]
      unfold flM
      rw [if_neg (by rw [a]; omega), a]
    · rw [if_neg y, a]
  unfold saleM
  rw [if_neg (by rw [b]; omega), b]
theorem sB_many {g : Mem} {p : Int} (h9 : g 0 9 = -1) (hp : 0 ≤ p) (h : g 2 1 ≠ 0) (h2 : g 2 2 = 40) : saleM g p 0 9 = 8 * p + 3 := by
  have a : sA g p = g := if_neg h
  have b : sB g p 0 9 = 8 * p + 3 := by
    unfold sB flM
    rw [if_pos h2, a, if_pos h9, mset_eq]
  unfold saleM
  rw [if_neg (by rw [b]; omega), b]
theorem dX4_readSale_0 : decode cX4_readSale 0 = .ok (.aload_n 0, 1) := by decide +kernel
theorem dX4_readSale_1 : decode cX4_readSale 1 = .ok (.getfield 12, 3) := by decide +kernel
theorem dX4_readSale_4 : decode cX4_readSale 4 = .ok (.getfield 129, 3) := by decide +kernel
theorem dX4_readSale_7 : decode cX4_readSale 7 = .ok (.ifCond .ne 13, 3) := by decide +kernel
theorem dX4_readSale_10 : decode cX4_readSale 10 = .ok (.aload_n 0, 1) := by decide +kernel
theorem dX4_readSale_11 : decode cX4_readSale 11 = .ok (.aload_n 0, 1) := by decide +kernel
theorem dX4_readSale_12 : decode cX4_readSale 12 = .ok (.getfield 63, 3) := by decide +kernel
theorem dX4_readSale_15 : decode cX4_readSale 15 = .ok (.iconst 1, 1) := by decide +kernel
theorem dX4_readSale_16 : decode cX4_readSale 16 = .ok (.invokevirtual 59, 3) := by decide +kernel
theorem dX4_readSale_19 : decode cX4_readSale 19 = .ok (.ireturn, 1) := by decide +kernel
theorem dX4_readSale_20 : decode cX4_readSale 20 = .ok (.aload_n 0, 1) := by decide +kernel
theorem dX4_readSale_21 : decode cX4_readSale 21 = .ok (.getfield 12, 3) := by decide +kernel
theorem dX4_readSale_24 : decode cX4_readSale 24 = .ok (.invokevirtual 135, 3) := by decide +kernel
theorem dX4_readSale_27 : decode cX4_readSale 27 = .ok (.bipush 40, 2) := by decide +kernel
theorem dX4_readSale_29 : decode cX4_readSale 29 = .ok (.if_icmp .lt 13, 3) := by decide +kernel
theorem dX4_readSale_32 : decode cX4_readSale 32 = .ok (.aload_n 0, 1) := by decide +kernel
theorem dX4_readSale_33 : decode cX4_readSale 33 = .ok (.aload_n 0, 1) := by decide +kernel
theorem dX4_readSale_34 : decode cX4_readSale 34 = .ok (.getfield 63, 3) := by decide +kernel
theorem dX4_readSale_37 : decode cX4_readSale 37 = .ok (.iconst 3, 1) := by decide +kernel
theorem dX4_readSale_38 : decode cX4_readSale 38 = .ok (.invokevirtual 59, 3) := by decide +kernel
theorem dX4_readSale_41 : decode cX4_readSale 41 = .ok (.ireturn, 1) := by decide +kernel
theorem dX4_readSale_42 : decode cX4_readSale 42 = .ok (.aload_n 0, 1) := by decide +kernel
theorem dX4_readSale_43 : decode cX4_readSale 43 = .ok (.iconst 1, 1) := by decide +kernel
theorem dX4_readSale_44 : decode cX4_readSale 44 = .ok (.sipush 1000, 3) := by decide +kernel
theorem dX4_readSale_47 : decode cX4_readSale 47 = .ok (.invokevirtual 96, 3) := by decide +kernel
theorem dX4_readSale_50 : decode cX4_readSale 50 = .ok (.ifCond .ne 5, 3) := by decide +kernel
theorem dX4_readSale_53 : decode cX4_readSale 53 = .ok (.iconst 0, 1) := by decide +kernel
theorem dX4_readSale_54 : decode cX4_readSale 54 = .ok (.ireturn, 1) := by decide +kernel
theorem dX4_readSale_55 : decode cX4_readSale 55 = .ok (.aload_n 0, 1) := by decide +kernel
theorem dX4_readSale_56 : decode cX4_readSale 56 = .ok (.getfield 81, 3) := by decide +kernel
theorem dX4_readSale_59 : decode cX4_readSale 59 = .ok (.istore_n 1, 1) := by decide +kernel
theorem dX4_readSale_60 : decode cX4_readSale 60 = .ok (.aload_n 0, 1) := by decide +kernel
theorem dX4_readSale_61 : decode cX4_readSale 61 = .ok (.invokevirtual 48, 3) := by decide +kernel
theorem dX4_readSale_64 : decode cX4_readSale 64 = .ok (.bipush 58, 2) := by decide +kernel
theorem dX4_readSale_66 : decode cX4_readSale 66 = .ok (.if_icmp .eq 13, 3) := by decide +kernel
theorem dX4_readSale_69 : decode cX4_readSale 69 = .ok (.aload_n 0, 1) := by decide +kernel
theorem dX4_readSale_70 : decode cX4_readSale 70 = .ok (.aload_n 0, 1) := by decide +kernel
theorem dX4_readSale_71 : decode cX4_readSale 71 = .ok (.getfield 32, 3) := by decide +kernel
theorem dX4_readSale_74 : decode cX4_readSale 74 = .ok (.iconst 1, 1) := by decide +kernel
theorem dX4_readSale_75 : decode cX4_readSale 75 = .ok (.invokevirtual 59, 3) := by decide +kernel
theorem dX4_readSale_78 : decode cX4_readSale 78 = .ok (.ireturn, 1) := by decide +kernel
theorem dX4_readSale_79 : decode cX4_readSale 79 = .ok (.aload_n 0, 1) := by decide +kernel
theorem dX4_readSale_80 : decode cX4_readSale 80 = .ok (.dup, 1) := by decide +kernel
theorem dX4_readSale_81 : decode cX4_readSale 81 = .ok (.getfield 32, 3) := by decide +kernel
theorem dX4_readSale_84 : decode cX4_readSale 84 = .ok (.iconst 1, 1) := by decide +kernel
theorem dX4_readSale_85 : decode cX4_readSale 85 = .ok (.iadd, 1) := by decide +kernel
theorem dX4_readSale_86 : decode cX4_readSale 86 = .ok (.putfield 32, 3) := by decide +kernel
theorem dX4_readSale_89 : decode cX4_readSale 89 = .ok (.aload_n 0, 1) := by decide +kernel
theorem dX4_readSale_90 : decode cX4_readSale 90 = .ok (.iload_n 1, 1) := by decide +kernel
theorem dX4_readSale_91 : decode cX4_readSale 91 = .ok (.invokevirtual 138, 3) := by decide +kernel
theorem dX4_readSale_94 : decode cX4_readSale 94 = .ok (.ireturn, 1) := by decide +kernel
set_option maxHeartbeats 4000000 in
set_option maxRecDepth 100000 in
theorem m_X4_readSale (l : Launch) (g : Mem) (mem : Mem) (hH : RH g mem) (hp : 0 ≤ mem 175 4 ∧ mem 175 4 ≤ 400) (hk1 : 1 ≤ g 2 0) : Ret shp l yX4_readSale cX4_readSale 2 (some .boolean) 4 [pR 175] mem (fun rv mv => ∃ z, rv = some (pI z) ∧ (∀ c, (c < 32 ∨ 42 < c) → c ≠ 175 → mv c = mem c) ∧ (z = 1 ∧ RH (saleM g (mem 175 4)) mv ∧ (saleM g (mem 175 4)) 2 0 = g 2 0 ∧ mv 175 7 = mem 175 7 ∨ z = 0 ∧ (saleM g (mem 175 4)) 0 9 ≠ -1 ∧ mv 175 7 = (saleM g (mem 175 4)) 0 9)) := by
  refine ret_of (by decide +kernel) (Nat.le_of_ble_eq_true rfl) (fun X hX F G => ?_)
  show Ok shp X 2 0 [(0, pR 175)] [] mem
  obtain ⟨a1, a2, a3, a4, a5, a6, a7, a8, a9⟩ := id hH
  have hok := a2.2.2.2.1
  have h321 : mem 32 1 = g 2 1 := a3.2.1
  have hall := a3.all32 a4
  have hf2 : fstD (mem 40) (mem 32 1) = g 2 2 := by rw [h321]; exact hall
  have gb1 := a4.2.1
  have gb2 := a4.2.2.1
  have hto : sTo g = 59 + 10 * g 2 2 := rfl
  obtain ⟨oC0, oC, hCc, hC2⟩ := sC_ok hok
  have c00 : sC0 g 0 = g 0 := mset_nka (by decide)
  refine ok_aload_n F dX4_readSale_0 0 rfl ?_
  refine ok_getr F dX4_readSale_1 kF_X4_12 sh_175 rfl ?_
  refine ok_getf (v := mem 32 1) F dX4_readSale_4 kF_X4_129 sh_32 rfl rfl ?_
  refine ok_if_ne F 20 dX4_readSale_7 (by decide) (by omega) (fun c_1 => ?_) (fun c_1 => ?_)
  · refine ok_aload_n F dX4_readSale_20 0 rfl ?_
    refine ok_getr F dX4_readSale_21 kF_X4_12 sh_175 rfl ?_
    refine ok_callv F [] dX4_readSale_24 kM_X6_allSales kI_X6_allSales kV_X6_allSales kL_X4_135 (ci := 6) rfl sh_32 rfl (by decide) (Nat.le_of_ble_eq_true rfl) rfl (m_X6_allSales_32 _ mem (by omega)) ?_
    rintro _ _ ⟨rfl, rfl⟩
    refine ok_bipush F dX4_readSale_27 rfl ?_
    refine ok_icmp_lt F 42 dX4_readSale_29 (by decide) (by omega) (by omega) (fun c_2 => ?_) (fun c_2 => ?_)
    · have hB : sB g (mem 175 4) = g := by
        have hA : sA g (mem 175 4) = g := if_neg (by omega)
        unfold sB
        rw [if_neg (by omega), hA]
      have hS := sale_9 hB a1
      have hbad : ∀ F : Int, F ≠ -1 → sD g 0 9 = F → saleM g (mem 175 4) 0 9 = F := fun F hF h => by rw [hS, mset_nk (by decide)]; exact sG_bad h hF
      have hc9 : sC g 0 9 = numM (sC0 g) 1 1000 0 9 := mset_nk (by decide)
      refine ok_aload_n F dX4_readSale_42 0 rfl ?_
      refine ok_iconst F dX4_readSale_43 ?_
      refine ok_sipush F dX4_readSale_44 rfl ?_
      refine ok_callv F [pI 1, pI 1000] dX4_readSale_47 kM_X4_readBounded kI_X4_readBounded kV_X4_readBounded kL_X4_96 (ci := 4) rfl sh_175 rfl (by decide) (Nat.le_of_ble_eq_true rfl) rfl (m_X4_readBounded _ (sC0 g) 1 1000 mem (a2.of (mset_nka (by decide)) (by rw [c00]) oC0 rfl rfl (by rw [c00]; exact a2.2.2.1)) (by rw [c00]; exact a1) (by omega) (by omega)) ?_
      rintro _ m_4 ⟨z_3, rfl, r_5⟩
      obtain ⟨u1, u2⟩ := id r_5
      obtain ⟨mQ, hmQ⟩ : ∃ x, x = m_4 := ⟨_, rfl⟩
      rw [← hmQ] at u1 u2
      have hz02 : z_3 = 1 ∨ z_3 = 0 := u2.elim (fun w => Or.inl w.1) (fun w => Or.inr w.1)
      refine ok_if_ne F 55 dX4_readSale_50 (by decide) (by omega) (fun c_6 => ?_) (fun c_6 => ?_)
      · obtain ⟨_, v1, v2, v3, v4, v5, v6, v7⟩ := u2.resolve_right (fun q => by have := q.1; omega)
        clear u2
        have hC9 : sC g 0 9 = -1 := by rw [hc9]; exact v1
        have cN : ∀ a, a ≠ 2 → sC g a = numM (sC0 g) 1 1000 a := fun a ha => mset_nka ha
        have hRTC : RT (sC g) mQ := v2.of (cN 6 (by decide)) (by rw [cN 0 (by decide)]) oC rfl rfl (by rw [cN 0 (by decide)]; exact v2.2.2.1)
        have hs58 : sgn (sC g) (ptP (sC g)) = sgn (sC g) (skipF (sC g) 401 (sC g 0 8)) := rfl
        refine ok_aload_n F dX4_readSale_55 0 rfl ?_
        refine ok_getf (v := m_4 175 5) F dX4_readSale_56 kF_X4_81 sh_175 rfl rfl ?_
        refine ok_istore_n (lv' := [(1, pI (m_4 175 5)), (0, pR 175)]) F dX4_readSale_59 (by decide) rfl ?_
        refine ok_aload_n F dX4_readSale_60 1 rfl ?_
        refine ok_callv F [] dX4_readSale_61 kM_X4_next kI_X4_next kV_X4_next kL_X4_48 (ci := 4) rfl sh_175 rfl (by decide) (Nat.le_of_ble_eq_true rfl) rfl (m_X4_next _ (sC g) m_4 (by rw [← hmQ]; exact hRTC)) ?_
        rintro _ m_7 ⟨rfl, e_8⟩
        have eX := e_8
        rw [← hmQ] at eX
        have hsb := sgn_bd (sC g) (ptP (sC g))
        have x3 : m_7 175 3 = ptP (sC g) := by rw [eX]; exact mset_eq _ _ _ _
        refine ok_bipush F dX4_readSale_64 rfl ?_
        refine ok_icmp_eq F 79 dX4_readSale_66 (by decide) (by omega) (by omega) (fun c_9 => ?_) (fun c_9 => ?_)
        · refine ok_aload_n F dX4_readSale_79 1 rfl ?_
          refine ok_dup F dX4_readSale_80 rfl ?_
          refine ok_getf (v := m_7 175 3) F dX4_readSale_81 kF_X4_32 sh_175 rfl rfl ?_
          refine ok_iconst F dX4_readSale_84 ?_
          refine ok_iadd F dX4_readSale_85 ?_
          refine ok_putf F dX4_readSale_86 kF_X4_32 sh_175 rfl rfl rfl (fun m_10 e_11 => ?_)
          have hsD : sD g = sCs g := by
            unfold sD
            rw [if_pos hC9, if_pos (by rw [← hs58]; omega)]
          have hCs9 : sCs g 0 9 = -1 := by
            unfold sCs
            rw [mset_ne (by decide)]; exact hC9
          have hsE : sE g = mset (sCs g) 0 8 (sCs g 0 8 + 1) := by
            unfold sE
            rw [hsD, if_pos hCs9]
          have hCs8 : sCs g 0 8 = ptP (sC g) := mset_eq _ _ _ _
          obtain ⟨oE, hEc⟩ := sE_ok hok
          have hE9 : sE g 0 9 = -1 := by rw [hsE, mset_ne (by decide)]; exact hCs9
          have hE7 : sE g 7 = g 7 := by rw [hEc 7 (by decide)]; exact hCc 7 (by decide) (by decide)
          have hmo : ∀ c, c ≠ 175 → m_10 c = mem c := fun c hc => by rw [e_11, mset_nka hc, eX, mset_nka hc]; exact u1 c hc
          have hTE : RT (sE g) m_10 := hRTC.of (by rw [hEc 6 (by decide)]) (by rw [hsE, mset_ne (by decide)]; exact mset_ne (by decide)) oE (by rw [hmo 176 (by decide), u1 176 (by decide)]) (by rw [e_11, mset_ne (by decide), eX]; exact mset_ne (by decide)) (by rw [e_11, mset_eq, hsE, mset_eq, hCs8, x3])
          have hm6 : m_10 175 6 = mem 175 6 := by rw [e_11, mset_ne (by decide), eX, mset_ne (by decide)]; exact v6
          have hm7 : m_10 175 7 = mem 175 7 := by rw [e_11, mset_ne (by decide), eX, mset_ne (by decide)]; exact v7
          have hE2 : ∀ j : Nat, sE g 2 j = if j = 59 + 10 * (g 2 2).toNat then g 2 1 - 1 else if j = 60 + 10 * (g 2 2).toNat then mQ 175 5 else g 2 j := fun j => by
            rw [hEc 2 (by decide), hC2, show (sTo g + 1).toNat = 60 + 10 * (g 2 2).toNat by omega, ← v3]
            by_cases y : j = 60 + 10 * (g 2 2).toNat
            · rw [y, mset_eq, if_neg (by omega), if_pos rfl]
            · rw [mset_ne (fun q => y q.2), if_neg y]
              unfold sC0
              rw [show (sTo g).toNat = 59 + 10 * (g 2 2).toNat by omega]
              by_cases z : j = 59 + 10 * (g 2 2).toNat
              · rw [z, mset_eq, if_pos rfl]
              · rw [mset_ne (fun q => z q.2), if_neg z]
          rw [hmQ] at hE2
          refine ok_aload_n F dX4_readSale_89 1 rfl ?_
          refine ok_iload_n F dX4_readSale_90 0 rfl ?_
          refine ok_callv F [pI (m_4 175 5)] dX4_readSale_91 kM_X4_readGiven kI_X4_readGiven kV_X4_readGiven kL_X4_138 (ci := 4) rfl sh_175 rfl (by decide) (Nat.le_of_ble_eq_true rfl) rfl (m_X4_readGiven _ g (mem 175 4) (m_4 175 5) m_10 (hB) (a1) (hTE) (hE9) (hE7) (hE2) (a3.congr (fun c c1 c2 => hmo c (by omega))) (a4) (a5) (by rw [hm6]; exact a6) (by rw [hm6]; exact a7) (a8) (by omega) (by omega) (hk1) (by rw [← hmQ]; omega)) ?_
          rintro _ m_13 ⟨z_12, rfl, r_14⟩
          obtain ⟨w1, w2⟩ := id r_14
          rw [hm7] at w2
          have hz03 : z_12 = 1 ∨ z_12 = 0 := w2.elim (fun w => Or.inl w.1) (fun w => Or.inr w.1)
          refine ok_zret F G dX4_readSale_94 (by rcases hz03 with q | q <;> rw [q] <;> rfl) ?_
          exact ⟨_, rfl, fun c hc h5 => by rw [w1 c hc h5]; exact hmo c h5, w2⟩
        · refine ok_aload_n F dX4_readSale_69 1 rfl ?_
          refine ok_aload_n F dX4_readSale_70 1 rfl ?_
          refine ok_getf (v := m_7 175 3) F dX4_readSale_71 kF_X4_32 sh_175 rfl rfl ?_
          refine ok_iconst F dX4_readSale_74 ?_
          refine ok_callv F [pI (m_7 175 3), pI 1] dX4_readSale_75 kM_X4_wrong kI_X4_wrong kV_X4_wrong kL_X4_59 (ci := 4) rfl sh_175 rfl (by decide) (Nat.le_of_ble_eq_true rfl) rfl (m_X4_wrong _ (m_7 175 3) 1 m_7) ?_
          rintro _ m_15 ⟨rfl, e_16⟩
          have eW := e_16
          refine ok_zret F G dX4_readSale_78 (rfl) ?_
          have hd : sD g 0 9 = 8 * ptP (sC g) + 1 := by
            unfold sD
            rw [if_pos hC9, if_neg (by rw [← hs58]; omega)]
            have e9 : sCs g 0 9 = -1 := by
              unfold sCs
              rw [mset_ne (by decide)]; exact hC9
            have e8 : sCs g 0 8 = ptP (sC g) := mset_eq _ _ _ _
            unfold flM
            rw [if_pos e9, mset_eq, e8]
          have hPb := (pt_ok oC).2.2.1
          have hf := hbad _ (by omega) hd
          exact ⟨_, rfl, fun c _ h5 => by rw [eW, mset_nka h5, eX, mset_nka h5]; exact u1 c h5, Or.inr ⟨rfl, by rw [hf]; omega, by rw [hf, eW, mset_eq, x3]⟩⟩
      · refine ok_iconst F dX4_readSale_53 ?_
        refine ok_zret F G dX4_readSale_54 (by first | rfl | exact zb_nar) ?_
        obtain ⟨_, v1, v2⟩ := u2.resolve_left (fun q => by have := q.1; omega)
        have hd : sD g 0 9 = numM (sC0 g) 1 1000 0 9 := by
          unfold sD
          rw [if_neg (by rw [hc9]; exact v1), hc9]
        have hf := hbad _ v1 hd
        exact ⟨_, rfl, fun c _ h5 => by rw [← hmQ, u1 c h5], Or.inr ⟨rfl, by rw [hf]; exact v1, by rw [hf, ← hmQ]; exact v2⟩⟩
    · refine ok_aload_n F dX4_readSale_32 0 rfl ?_
      refine ok_aload_n F dX4_readSale_33 0 rfl ?_
      refine ok_getf (v := mem 175 4) F dX4_readSale_34 kF_X4_63 sh_175 rfl rfl ?_
      refine ok_iconst F dX4_readSale_37 ?_
      refine ok_callv F [pI (mem 175 4), pI 3] dX4_readSale_38 kM_X4_wrong kI_X4_wrong kV_X4_wrong kL_X4_59 (ci := 4) rfl sh_175 rfl (by decide) (Nat.le_of_ble_eq_true rfl) rfl (m_X4_wrong _ (mem 175 4) 3 mem) ?_
      rintro _ m_17 ⟨rfl, e_18⟩
      have eW := e_18
      refine ok_zret F G dX4_readSale_41 (rfl) ?_
      have hf := sB_many (p := mem 175 4) a1 hp.1 (by omega) (by omega)
      exact ⟨_, rfl, fun c _ h5 => by rw [eW, mset_nka h5], Or.inr ⟨rfl, by rw [hf]; omega, by rw [hf, eW, mset_eq]⟩⟩
  · refine ok_aload_n F dX4_readSale_10 0 rfl ?_
    refine ok_aload_n F dX4_readSale_11 0 rfl ?_
    refine ok_getf (v := mem 175 4) F dX4_readSale_12 kF_X4_63 sh_175 rfl rfl ?_
    refine ok_iconst F dX4_readSale_15 ?_
    refine ok_callv F [pI (mem 175 4), pI 1] dX4_readSale_16 kM_X4_wrong kI_X4_wrong kV_X4_wrong kL_X4_59 (ci := 4) rfl sh_175 rfl (by decide) (Nat.le_of_ble_eq_true rfl) rfl (m_X4_wrong _ (mem 175 4) 1 mem) ?_
    rintro _ m_19 ⟨rfl, e_20⟩
    have eW := e_20
    refine ok_zret F G dX4_readSale_19 (rfl) ?_
    have hf := sB_days (p := mem 175 4) a1 hp.1 (by omega)
    exact ⟨_, rfl, fun c _ h5 => by rw [eW, mset_nka h5], Or.inr ⟨rfl, by rw [hf]; omega, by rw [hf, eW, mset_eq]⟩⟩
