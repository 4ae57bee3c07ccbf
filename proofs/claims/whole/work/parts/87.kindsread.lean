/-! the class: the kinds read -/
theorem ptW_no {g : Mem} {w : Nat} (hw : w < 13) (h : ptN g = 0) : ptW g w = false := by
  have k : ∀ w : Nat, w < 13 → sLen.getD w 0 ≠ 0 := by decide
  have k2 := k w hw
  cases q : ptW g w
  · rfl
  · have q2 : spelT (ptD g) (ptP g) (ptN g) w := spB_iff.mp q
    have := q2.1
    omega
theorem tl1_9 {g : Mem} (hok : RdOk g) (h9 : g 0 9 = -1) (hw : ptW g 0 = false) : tl1 g 0 9 = 8 * ptP g + 1 ∧ tl1 g 0 9 ≠ -1 := by
  obtain ⟨pD, pT, pP, aD, aT, eP1, pid, hle, pN, p99, p9t⟩ := pt_ok hok
  have e : tl1 g 0 9 = 8 * ptP g + 1 := by
    unfold tl1 flM
    rw [if_neg (by rw [hw]; decide), if_pos (by rw [p99]; exact h9), mset_eq]
  exact ⟨e, by rw [e]; omega⟩
theorem RH.of {g g2 m mv : Mem} (h : RH g m) (h9 : g2 0 9 = -1) (hT : RT g2 mv) (h2 : g2 2 = g 2) (h7 : g2 7 = g 7) (e : ∀ c, 32 ≤ c → c ≤ 42 → mv c = m c) (e6 : mv 175 6 = m 175 6) : RH g2 mv := by
  obtain ⟨a1, a2, a3, a4, a5, a6, a7, a8, a9⟩ := h
  refine ⟨h9, hT, ?_, by rw [h2]; exact a4, by rw [h2]; exact a5, by rw [e6]; exact a6, by rw [e6, h7]; exact a7, by rw [h7]; exact a8, by rw [h2]; exact a9⟩
  rw [h2]
  exact a3.congr (fun c c1 c2 => e c c1 c2)
theorem RH.next {g m : Mem} (h : RH g m) : RH (ptD g) (mset m 175 3 (ptP g)) := by
  have hok := h.2.1.2.2.2.1
  obtain ⟨pD, pT, pP, aD, aT, eP1, pid, hle, pN, p99, p9t⟩ := pt_ok hok
  refine h.of (by rw [p99]; exact h.1) (h.2.1.of (aD 6 (by decide)) (mset_ne (by decide)) pD (mset_nka (by decide)) (mset_ne (by decide)) (by rw [mset_eq, eP1])) (aD 2 (by decide)) (aD 7 (by decide)) (fun c c1 c2 => mset_nka (by omega)) (mset_ne (by decide))
theorem kB_stop {m : Mem} {F : Int} (h : kB m 0 9 = F) (hF : F ≠ -1) (c : Nat) : kindsL (c + 1) m 0 9 = F := by
  have e : kC m = kB m := if_neg (by rw [h]; exact hF)
  have d : kD m = kC m := if_neg (by rw [e, h]; exact hF)
  have b : kMore m = false := decide_eq_false (fun q => hF (by rw [e, h] at q; exact q.1))
  rw [kindsL_s, if_neg (by rw [b]; decide), d, e, h]
theorem kC_step {G Q m mq m2 : Mem} {V : Int} (hH : RH G m) (hQ : kA G = Q) (hQ9 : Q 0 9 = -1) (hT : RT Q mq) (hf : ∀ c, c ≠ 175 → mq c = m c) (h6 : mq 175 6 = m 175 6) (hN : 0 ≤ G 2 0 ∧ G 2 0 < 8) (h21 : G 2 1 = 0) (h22 : G 2 2 = 0) (hS : ∀ j : Nat, 11 ≤ j → G 2 j = startH j) (hV : (numR G 1 500).1 = V) (hVb : 1 ≤ V ∧ V ≤ 500) (e2 : m2 = mset (mset mq 33 (G 2 0).toNat V) 32 0 (G 2 0 + 1)) : RH (kC G) m2 ∧ kC G 2 0 = G 2 0 + 1 ∧ kC G 2 1 = 0 ∧ kC G 2 2 = 0 ∧ (∀ j : Nat, 11 ≤ j → kC G 2 j = startH j) ∧ kC G 2 (3 + G 2 0).toNat = V ∧ kC G 0 9 = -1 := by
  have hok := hH.2.1.2.2.2.1
  obtain ⟨hokA, hcA⟩ := kA_ok hok
  have hB : kB G = Q := by
    unfold kB
    rw [hQ, if_neg (by omega)]
  have hC : kC G = mset (mset Q 2 (3 + G 2 0).toNat V) 2 0 (G 2 0 + 1) := by
    unfold kC
    rw [hB, if_pos hQ9, hV]
  have q2 : Q 2 = G 2 := by rw [← hQ]; exact hcA 2 (by decide)
  have q7 : Q 7 = G 7 := by rw [← hQ]; exact hcA 7 (by decide)
  have c0 : kC G 2 0 = G 2 0 + 1 := by rw [hC, mset_eq]
  have cV : kC G 2 (3 + G 2 0).toNat = V := by rw [hC, mset_ne (by omega), mset_eq]
  have ce : ∀ j : Nat, j ≠ 0 → j ≠ (3 + G 2 0).toNat → kC G 2 j = G 2 j := fun j h0 h3 => by rw [hC, mset_ne (fun q => h0 q.2), mset_ne (fun q => h3 q.2), q2]
  have cc : ∀ a, a ≠ 2 → kC G a = Q a := fun a ha => by rw [hC, mset_nka ha, mset_nka ha]
  have c9 : kC G 0 9 = -1 := by rw [cc 0 (by decide)]; exact hQ9
  obtain ⟨a1, a2, a3, a4, a5, a6, a7, a8, a9⟩ := hH
  have hGR := KindGR a4 hVb hN.2 h21 h22 hS c0 cV ce
  have m2o : ∀ c, c ≠ 32 → c ≠ 33 → m2 c = mq c := fun c h1 h2 => by rw [e2, mset_nka h1, mset_nka h2]
  have hokC : RdOk (kC G) := hT.2.2.2.1.cell (cc 0 (by decide))
  refine ⟨⟨c9, hT.of (cc 6 (by decide)) (by rw [cc 0 (by decide)]) hokC (m2o 176 (by decide) (by decide)) (by rw [m2o 175 (by decide) (by decide)]) (by rw [m2o 175 (by decide) (by decide), cc 0 (by decide)]; exact hT.2.2.1), ?_, hGR, fun j hj => ?_, by rw [m2o 175 (by decide) (by decide), h6]; exact a6, ?_, ?_, fun q => ?_⟩, c0, by rw [ce 1 (by decide) (by omega)]; exact h21, by rw [ce 2 (by decide) (by omega)]; exact h22, fun j hj => by rw [ce j (by omega) (by omega)]; exact hS j hj, cV, c9⟩
  · obtain ⟨r0, r1, rr, rs, rd⟩ := a3
    have e22 : kC G 2 2 = 0 := by rw [ce 2 (by decide) (by omega)]; exact h22
    have e21 : kC G 2 1 = 0 := by rw [ce 1 (by decide) (by omega)]; exact h21
    refine ⟨by rw [e2, mset_eq, c0], by rw [e2, mset_ne (by decide), mset_nk (by decide), hf 32 (by decide), ce 1 (by decide) (by omega)]; exact r1, fun r hr k hk => ?_, fun s hs => by rw [e22] at hs; omega, fun d hd => by rw [e21] at hd; omega⟩
    by_cases y : r = 0
    · subst y
      show m2 33 k = kC G 2 (3 + 8 * 0 + k)
      rw [e2, mset_nk (by decide)]
      by_cases z : k = (G 2 0).toNat
      · rw [z, mset_eq, show 3 + 8 * 0 + (G 2 0).toNat = (3 + G 2 0).toNat by omega, cV]
      · rw [mset_ne (fun q => z q.2), hf 33 (by decide), ce _ (by omega) (by omega)]; exact rr 0 (by decide) k hk
    · rw [m2o _ (by omega) (by omega), hf _ (by omega), ce _ (by omega) (by omega)]; exact rr r hr k hk
  · have h2' : kC G 2 2 = 0 := by rw [ce 2 (by decide) (by omega)]; exact h22
    rw [h2'] at hj
    rw [ce j (by omega) (by omega)]
    exact a5 j (by rw [h22]; exact hj)
  · rw [m2o 175 (by decide) (by decide), h6, cc 7 (by decide), q7]; exact a7
  · rw [cc 7 (by decide), q7]; exact a8
  · rw [c0]; omega
theorem dX4_readKinds_0 : decode cX4_readKinds 0 = .ok (.aload_n 0, 1) := by decide +kernel
theorem dX4_readKinds_1 : decode cX4_readKinds 1 = .ok (.invokevirtual 87, 3) := by decide +kernel
theorem dX4_readKinds_4 : decode cX4_readKinds 4 = .ok (.ifCond .ne 5, 3) := by decide +kernel
theorem dX4_readKinds_7 : decode cX4_readKinds 7 = .ok (.iconst 0, 1) := by decide +kernel
theorem dX4_readKinds_8 : decode cX4_readKinds 8 = .ok (.ireturn, 1) := by decide +kernel
theorem dX4_readKinds_9 : decode cX4_readKinds 9 = .ok (.aload_n 0, 1) := by decide +kernel
theorem dX4_readKinds_10 : decode cX4_readKinds 10 = .ok (.ldc 90, 2) := by decide +kernel
theorem dX4_readKinds_12 : decode cX4_readKinds 12 = .ok (.invokevirtual 92, 3) := by decide +kernel
theorem dX4_readKinds_15 : decode cX4_readKinds 15 = .ok (.ifCond .ne 13, 3) := by decide +kernel
theorem dX4_readKinds_18 : decode cX4_readKinds 18 = .ok (.aload_n 0, 1) := by decide +kernel
theorem dX4_readKinds_19 : decode cX4_readKinds 19 = .ok (.aload_n 0, 1) := by decide +kernel
theorem dX4_readKinds_20 : decode cX4_readKinds 20 = .ok (.getfield 63, 3) := by decide +kernel
theorem dX4_readKinds_23 : decode cX4_readKinds 23 = .ok (.iconst 1, 1) := by decide +kernel
theorem dX4_readKinds_24 : decode cX4_readKinds 24 = .ok (.invokevirtual 59, 3) := by decide +kernel
theorem dX4_readKinds_27 : decode cX4_readKinds 27 = .ok (.ireturn, 1) := by decide +kernel
theorem dX4_readKinds_28 : decode cX4_readKinds 28 = .ok (.iconst 0, 1) := by decide +kernel
theorem dX4_readKinds_29 : decode cX4_readKinds 29 = .ok (.istore_n 1, 1) := by decide +kernel
theorem dX4_readKinds_30 : decode cX4_readKinds 30 = .ok (.iconst 0, 1) := by decide +kernel
theorem dX4_readKinds_31 : decode cX4_readKinds 31 = .ok (.istore_n 2, 1) := by decide +kernel
theorem dX4_readKinds_32 : decode cX4_readKinds 32 = .ok (.iload_n 2, 1) := by decide +kernel
theorem dX4_readKinds_33 : decode cX4_readKinds 33 = .ok (.bipush 8, 2) := by decide +kernel
theorem dX4_readKinds_35 : decode cX4_readKinds 35 = .ok (.if_icmp .gt 80, 3) := by decide +kernel
theorem dX4_readKinds_38 : decode cX4_readKinds 38 = .ok (.aload_n 0, 1) := by decide +kernel
theorem dX4_readKinds_39 : decode cX4_readKinds 39 = .ok (.iload_n 1, 1) := by decide +kernel
theorem dX4_readKinds_40 : decode cX4_readKinds 40 = .ok (.iconst 1, 1) := by decide +kernel
theorem dX4_readKinds_41 : decode cX4_readKinds 41 = .ok (.iadd, 1) := by decide +kernel
theorem dX4_readKinds_42 : decode cX4_readKinds 42 = .ok (.sipush 500, 3) := by decide +kernel
theorem dX4_readKinds_45 : decode cX4_readKinds 45 = .ok (.invokevirtual 96, 3) := by decide +kernel
theorem dX4_readKinds_48 : decode cX4_readKinds 48 = .ok (.ifCond .ne 5, 3) := by decide +kernel
theorem dX4_readKinds_51 : decode cX4_readKinds 51 = .ok (.iconst 0, 1) := by decide +kernel
theorem dX4_readKinds_52 : decode cX4_readKinds 52 = .ok (.ireturn, 1) := by decide +kernel
theorem dX4_readKinds_53 : decode cX4_readKinds 53 = .ok (.iload_n 2, 1) := by decide +kernel
theorem dX4_readKinds_54 : decode cX4_readKinds 54 = .ok (.bipush 8, 2) := by decide +kernel
theorem dX4_readKinds_56 : decode cX4_readKinds 56 = .ok (.if_icmp .lt 13, 3) := by decide +kernel
theorem dX4_readKinds_59 : decode cX4_readKinds 59 = .ok (.aload_n 0, 1) := by decide +kernel
theorem dX4_readKinds_60 : decode cX4_readKinds 60 = .ok (.aload_n 0, 1) := by decide +kernel
theorem dX4_readKinds_61 : decode cX4_readKinds 61 = .ok (.getfield 63, 3) := by decide +kernel
theorem dX4_readKinds_64 : decode cX4_readKinds 64 = .ok (.iconst 3, 1) := by decide +kernel
theorem dX4_readKinds_65 : decode cX4_readKinds 65 = .ok (.invokevirtual 59, 3) := by decide +kernel
theorem dX4_readKinds_68 : decode cX4_readKinds 68 = .ok (.ireturn, 1) := by decide +kernel
theorem dX4_readKinds_69 : decode cX4_readKinds 69 = .ok (.aload_n 0, 1) := by decide +kernel
theorem dX4_readKinds_70 : decode cX4_readKinds 70 = .ok (.getfield 81, 3) := by decide +kernel
theorem dX4_readKinds_73 : decode cX4_readKinds 73 = .ok (.istore_n 1, 1) := by decide +kernel
theorem dX4_readKinds_74 : decode cX4_readKinds 74 = .ok (.aload_n 0, 1) := by decide +kernel
theorem dX4_readKinds_75 : decode cX4_readKinds 75 = .ok (.getfield 12, 3) := by decide +kernel
theorem dX4_readKinds_78 : decode cX4_readKinds 78 = .ok (.getfield 99, 3) := by decide +kernel
theorem dX4_readKinds_81 : decode cX4_readKinds 81 = .ok (.iload_n 2, 1) := by decide +kernel
theorem dX4_readKinds_82 : decode cX4_readKinds 82 = .ok (.aload_n 0, 1) := by decide +kernel
theorem dX4_readKinds_83 : decode cX4_readKinds 83 = .ok (.getfield 81, 3) := by decide +kernel
theorem dX4_readKinds_86 : decode cX4_readKinds 86 = .ok (.iastore, 1) := by decide +kernel
theorem dX4_readKinds_87 : decode cX4_readKinds 87 = .ok (.aload_n 0, 1) := by decide +kernel
theorem dX4_readKinds_88 : decode cX4_readKinds 88 = .ok (.getfield 12, 3) := by decide +kernel
theorem dX4_readKinds_91 : decode cX4_readKinds 91 = .ok (.iload_n 2, 1) := by decide +kernel
theorem dX4_readKinds_92 : decode cX4_readKinds 92 = .ok (.iconst 1, 1) := by decide +kernel
theorem dX4_readKinds_93 : decode cX4_readKinds 93 = .ok (.iadd, 1) := by decide +kernel
theorem dX4_readKinds_94 : decode cX4_readKinds 94 = .ok (.putfield 102, 3) := by decide +kernel
theorem dX4_readKinds_97 : decode cX4_readKinds 97 = .ok (.aload_n 0, 1) := by decide +kernel
theorem dX4_readKinds_98 : decode cX4_readKinds 98 = .ok (.invokevirtual 48, 3) := by decide +kernel
theorem dX4_readKinds_101 : decode cX4_readKinds 101 = .ok (.invokestatic 78, 3) := by decide +kernel
theorem dX4_readKinds_104 : decode cX4_readKinds 104 = .ok (.ifCond .ne 5, 3) := by decide +kernel
theorem dX4_readKinds_107 : decode cX4_readKinds 107 = .ok (.iconst 1, 1) := by decide +kernel
theorem dX4_readKinds_108 : decode cX4_readKinds 108 = .ok (.ireturn, 1) := by decide +kernel
theorem dX4_readKinds_109 : decode cX4_readKinds 109 = .ok (.iinc 2 1, 3) := by decide +kernel
theorem dX4_readKinds_112 : decode cX4_readKinds 112 = .ok (.goto (-80), 3) := by decide +kernel
set_option maxHeartbeats 4000000 in
set_option maxRecDepth 100000 in
theorem m_X4_readKinds (l : Launch) (g : Mem) (mem : Mem) (hH : RH g mem) (h20 : g 2 0 = 0) (h21 : g 2 1 = 0) (h22 : g 2 2 = 0) (hS : ∀ j : Nat, 11 ≤ j → g 2 j = startH j) : Ret shp l yX4_readKinds cX4_readKinds 3 (some .boolean) 5 [pR 175] mem (fun rv mv => ∃ z, rv = some (pI z) ∧ (∀ c, (c < 32 ∨ 42 < c) → c ≠ 175 → mv c = mem c) ∧ (z = 1 ∧ RH (kindsL 10 (tl1 g)) mv ∧ 1 ≤ (kindsL 10 (tl1 g)) 2 0 ∧ mv 175 7 = mem 175 7 ∨ z = 0 ∧ (kindsL 10 (tl1 g)) 0 9 ≠ -1 ∧ mv 175 7 = (kindsL 10 (tl1 g)) 0 9)) := by
  refine ret_of (by decide +kernel) (Nat.le_of_ble_eq_true rfl) (fun X hX F G => ?_)
  show Ok shp X 3 0 [(0, pR 175)] [] mem
  obtain ⟨a1, a2, a3, a4, a5, a6, a7, a8, a9⟩ := id hH
  have hok := a2.2.2.2.1
  obtain ⟨pD, pT, pP, aD, aT, eP1, pid, hle, pN, p99, p9t⟩ := pt_ok hok
  have no9 := fun hw : ptW g 0 = false => tl1_9 hok a1 hw
  refine ok_aload_n F dX4_readKinds_0 0 rfl ?_
  refine ok_callv F [] dX4_readKinds_1 kM_X4_readWord kI_X4_readWord kV_X4_readWord kL_X4_87 (ci := 4) rfl sh_175 rfl (by decide) (Nat.le_of_ble_eq_true rfl) rfl (m_X4_readWord _ g mem (a2)) ?_
  rintro _ m_2 ⟨z_1, rfl, r_3⟩
  obtain ⟨r1, r2⟩ := id r_3
  obtain ⟨mW, hmW⟩ : ∃ x, x = m_2 := ⟨_, rfl⟩
  rw [← hmW] at r1 r2
  have hz01 : z_1 = 1 ∨ z_1 = 0 := r2.elim (fun w => Or.inl w.1) (fun w => Or.inr w.1)
  refine ok_if_ne F 9 dX4_readKinds_4 (by decide) (by omega) (fun c_4 => ?_) (fun c_4 => ?_)
  · obtain ⟨_, d1, d2, d3, d4⟩ := r2.resolve_right (fun q => by have := q.1; omega)
    have hRTt : RT (ptT g) mW := a2.of (aT 6 (by decide)) (by unfold ptT ptD; rw [mset_ne (by decide), mset_ne (by decide)]) pT (r1 176 (by decide)) (d4 2 (by decide) (by decide)) (by rw [d3]; exact (mset_eq _ _ _ _).symm)
    refine ok_aload_n F dX4_readKinds_9 0 rfl ?_
    refine ok_ldcs (i := 0) F dX4_readKinds_10 (List.mem_of_getElem? (i := 0) rfl) ?_
    refine ok_callv F [pR (1000 + 0)] dX4_readKinds_12 kM_X4_spells kI_X4_spells kV_X4_spells kL_X4_92 (ci := 4) rfl sh_175 rfl (by decide) (Nat.le_of_ble_eq_true rfl) rfl (m_X4_spells _ g 0 m_2 (by omega) (by rw [← hmW]; exact hRTt) (hok) (by rw [← hmW]; exact d2)) ?_
    rintro _ _ ⟨rfl, rfl⟩
    refine ok_if_ne F 28 dX4_readKinds_15 (by decide) (by omega) (fun c_5 => ?_) (fun c_5 => ?_)
    · have hwt : ptW g 0 = true := by
        by_cases q : ptW g 0 = true
        · exact q
        · rw [if_neg q] at c_5; omega
      have htl : tl1 g = ptT g := if_pos hwt
      refine ok_iconst F dX4_readKinds_28 ?_
      refine ok_istore_n (lv' := [(1, pI 0), (0, pR 175)]) F dX4_readKinds_29 (by decide) rfl ?_
      refine ok_iconst F dX4_readKinds_30 ?_
      refine ok_istore_n (lv' := [(2, pI 0), (1, pI 0), (0, pR 175)]) F dX4_readKinds_31 (by decide) rfl ?_
      have hL_32 : ∀ (n_32 : Nat) (v : Int) (i : Int) (m : Mem), (∃ (H : Mem) (c : Nat), (c : Int) + i = 10 ∧ (kindsL 10 (tl1 g)) = kindsL c H ∧ RH H m ∧ H 2 0 = i ∧ H 2 1 = 0 ∧ H 2 2 = 0 ∧ (∀ j : Nat, 11 ≤ j → H 2 j = startH j) ∧ v = (if H 2 0 = 0 then 0 else H 2 (3 + H 2 0 - 1).toNat) ∧ (0 ≤ v ∧ v ≤ 500) ∧ (0 ≤ i ∧ i ≤ 8) ∧ (∀ c, (c < 32 ∨ 42 < c) → c ≠ 175 → m c = mem c) ∧ m 175 7 = mem 175 7) → (10 - i).toNat = n_32 → Ok shp X 3 32 [(0, pR 175), (1, pI v), (2, pI i)] [] m := by
        intro n_32
        induction n_32 using Nat.strongRecOn with
        | _ n_32 ih_32 =>
          intro v i m hI_32 hn_32
          obtain ⟨H, c0, hc0, hK, hHG, hGi, hG1, hG2, hGS, hlast, hl0, hib, hF, hF7⟩ := hI_32
          obtain ⟨c1, rfl⟩ : ∃ x, c0 = x + 1 := ⟨c0 - 1, by omega⟩
          refine ok_iload_n F dX4_readKinds_32 2 rfl ?_
          refine ok_bipush F dX4_readKinds_33 rfl ?_
          refine ok_icmp_gt F 115 dX4_readKinds_35 (by decide) (by omega) (by omega) (fun c_6 => ?_) (fun c_6 => ?_)
          · exfalso; omega
          · refine ok_aload_n F dX4_readKinds_38 0 rfl ?_
            refine ok_iload_n F dX4_readKinds_39 1 rfl ?_
            refine ok_iconst F dX4_readKinds_40 ?_
            refine ok_iadd F dX4_readKinds_41 ?_
            refine ok_sipush F dX4_readKinds_42 rfl ?_
            refine ok_callv F [pI (v + 1), pI 500] dX4_readKinds_45 kM_X4_readBounded kI_X4_readBounded kV_X4_readBounded kL_X4_96 (ci := 4) rfl sh_175 rfl (by decide) (Nat.le_of_ble_eq_true rfl) rfl (m_X4_readBounded _ H (v + 1) 500 m (hHG.2.1) (hHG.1) (by omega) (by omega)) ?_
            rintro _ m_8 ⟨z_7, rfl, r_9⟩
            obtain ⟨u1, u2⟩ := id r_9
            obtain ⟨mQ, hmQ⟩ : ∃ x, x = m_8 := ⟨_, rfl⟩
            rw [← hmQ] at u1 u2
            have hz02 : z_7 = 1 ∨ z_7 = 0 := u2.elim (fun w => Or.inl w.1) (fun w => Or.inr w.1)
            refine ok_if_ne F 53 dX4_readKinds_48 (by decide) (by omega) (fun c_10 => ?_) (fun c_10 => ?_)
            · obtain ⟨_, v1, v2, v3, v4, v5, v6, v7⟩ := u2.resolve_right (fun q => by have := q.1; omega)
              obtain ⟨kA1, kV⟩ := (kA_eq hHG.1 (by omega) hlast hl0.1).1 v1
              refine ok_iload_n F dX4_readKinds_53 2 rfl ?_
              refine ok_bipush F dX4_readKinds_54 rfl ?_
              refine ok_icmp_lt F 69 dX4_readKinds_56 (by decide) (by omega) (by omega) (fun c_11 => ?_) (fun c_11 => ?_)
              · refine ok_aload_n F dX4_readKinds_69 0 rfl ?_
                refine ok_getf (v := m_8 175 5) F dX4_readKinds_70 kF_X4_81 sh_175 rfl rfl ?_
                refine ok_istore_n (lv' := [(1, pI (m_8 175 5)), (0, pR 175), (2, pI i)]) F dX4_readKinds_73 (by decide) rfl ?_
                refine ok_aload_n F dX4_readKinds_74 1 rfl ?_
                refine ok_getr F dX4_readKinds_75 kF_X4_12 sh_175 rfl ?_
                refine ok_getr F dX4_readKinds_78 kF_X4_99 sh_32 rfl ?_
                refine ok_iload_n F dX4_readKinds_81 2 rfl ?_
                refine ok_aload_n F dX4_readKinds_82 1 rfl ?_
                refine ok_getf (v := m_8 175 5) F dX4_readKinds_83 kF_X4_81 sh_175 rfl rfl ?_
                refine ok_iast F dX4_readKinds_86 sh_33 (by first | decide | assumption) (by omega) (by omega) (fun m_12 e_13 => ?_)
                refine ok_aload_n F dX4_readKinds_87 1 rfl ?_
                refine ok_getr F dX4_readKinds_88 kF_X4_12 sh_175 rfl ?_
                refine ok_iload_n F dX4_readKinds_91 2 rfl ?_
                refine ok_iconst F dX4_readKinds_92 ?_
                refine ok_iadd F dX4_readKinds_93 ?_
                refine ok_putf F dX4_readKinds_94 kF_X4_102 sh_32 rfl rfl rfl (fun m_14 e_15 => ?_)
                obtain ⟨m2, hm2⟩ : ∃ x, x = m_14 := ⟨_, rfl⟩
                have e2x : m2 = mset (mset mQ 33 (H 2 0).toNat (mQ 175 5)) 32 0 (H 2 0 + 1) := by rw [hm2, e_15, e_13, ← hmQ, hGi]
                obtain ⟨hC1, hC2, hC3, hC4, hC5, hC6, hC7⟩ := kC_step (m2 := m2) (V := mQ 175 5) hHG kA1 v1 v2 u1 v6 (by omega) hG1 hG2 hGS (by rw [kV, v3]) (by rw [v3]; omega) e2x
                have hDD : kD H = ptD (kC H) := by
                  unfold kD
                  rw [if_pos hC7]
                  rfl
                have hkm : kMore H = decide (kC H 0 9 = -1 ∧ 48 ≤ sgn (kC H) (ptP (kC H)) ∧ sgn (kC H) (ptP (kC H)) ≤ 57) := rfl
                have hm2c : ∀ c, (c < 32 ∨ 42 < c) → c ≠ 175 → m2 c = mem c := fun c hc h5 => by rw [e2x, mset_nka (by omega), mset_nka (by omega), u1 c h5]; exact hF c hc h5
                have hm27 : m2 175 7 = mem 175 7 := by rw [e2x, mset_nk (by decide), mset_nk (by decide), v7]; exact hF7
                refine ok_aload_n F dX4_readKinds_97 1 rfl ?_
                refine ok_callv F [] dX4_readKinds_98 kM_X4_next kI_X4_next kV_X4_next kL_X4_48 (ci := 4) rfl sh_175 rfl (by decide) (Nat.le_of_ble_eq_true rfl) rfl (m_X4_next _ (kC H) m_14 (by rw [← hm2]; exact hC1.2.1)) ?_
                rintro _ m_16 ⟨rfl, e_17⟩
                have eX := e_17
                rw [← hm2] at eX
                refine ok_calls F [pI (sgn (kC H) (ptP (kC H)))] dX4_readKinds_101 kM_X4_isDigit kS_X4_isDigit kL_X4_78 rfl (by decide) (Nat.le_of_ble_eq_true rfl) rfl (m_X4_isDigit _ (sgn (kC H) (ptP (kC H))) m_16 (by have := sgn_bd (kC H) (ptP (kC H)); omega)) ?_
                rintro _ _ ⟨rfl, rfl⟩
                refine ok_if_ne F 109 dX4_readKinds_104 (by decide) (by omega) (fun c_18 => ?_) (fun c_18 => ?_)
                · have hyd : kMore H = true := by rw [hkm]; exact decide_eq_true (by omega)
                  have hRHD : RH (kD H) m_16 := by rw [hDD, eX]; exact hC1.next
                  refine ok_iinc (lv' := [(2, pI (i + 1)), (1, pI (m_8 175 5)), (0, pR 175)]) F dX4_readKinds_109 2 rfl (by decide) rfl ?_
                  refine ok_goto F 32 dX4_readKinds_112 (by decide) ?_
                  refine ok_lvp [2, 1, 0] (lv' := [(0, pR 175), (1, pI (m_8 175 5)), (2, pI (i + 1))]) rfl ?_
                  refine ih_32 _ ?_ (m_8 175 5) (i + 1) m_16 ?_ rfl
                  · omega
                  · have kc2 := (kD_ok hHG.2.1.2.2.2.1).2 2 (by decide)
                    refine ⟨kD H, c1, by omega, ?_, hRHD, by rw [kc2, hC2, hGi], by rw [kc2]; exact hC3, by rw [kc2]; exact hC4, by rw [kc2]; exact hC5, ?_, ?_, by omega, ?_, ?_⟩
                    · rw [hK, kindsL_s, if_pos hyd]
                    · rw [kc2, if_neg (by omega), show (3 + kC H 2 0 - 1).toNat = (3 + H 2 0).toNat by omega, hC6, hmQ]
                    · first | (rw [← hmQ, v3]; omega) | (rw [hmQ] at v3; omega)
                    · intro c hc h5
                      rw [eX, mset_nka h5]; exact hm2c c hc h5
                    · rw [eX, mset_ne (by decide)]; exact hm27
                · have hnd : kMore H = false := by rw [hkm]; exact decide_eq_false (by omega)
                  refine ok_iconst F dX4_readKinds_107 ?_
                  refine ok_zret F G dX4_readKinds_108 (by first | rfl | exact zb_nar) ?_
                  have hkD : kindsL (c1 + 1) H = kD H := by rw [kindsL_s, if_neg (by rw [hnd]; decide)]
                  have kc2 := (kD_ok hHG.2.1.2.2.2.1).2 2 (by decide)
                  refine ⟨_, rfl, fun c hc h5 => by rw [eX, mset_nka h5]; exact hm2c c hc h5, Or.inl ⟨rfl, by rw [hK, hkD, hDD, eX]; exact hC1.next, by rw [hK, hkD, kc2, hC2]; omega, by rw [eX, mset_ne (by decide)]; exact hm27⟩⟩
              · refine ok_aload_n F dX4_readKinds_59 0 rfl ?_
                refine ok_aload_n F dX4_readKinds_60 0 rfl ?_
                refine ok_getf (v := m_8 175 4) F dX4_readKinds_61 kF_X4_63 sh_175 rfl rfl ?_
                refine ok_iconst F dX4_readKinds_64 ?_
                refine ok_callv F [pI (m_8 175 4), pI 3] dX4_readKinds_65 kM_X4_wrong kI_X4_wrong kV_X4_wrong kL_X4_59 (ci := 4) rfl sh_175 rfl (by decide) (Nat.le_of_ble_eq_true rfl) rfl (m_X4_wrong _ (m_8 175 4) 3 m_8) ?_
                rintro _ m_19 ⟨rfl, e_20⟩
                have eW := e_20
                refine ok_zret F G dX4_readKinds_68 (rfl) ?_
                have kb : kB H 0 9 = 8 * numM H (v + 1) 500 0 10 + 3 := by
                  unfold kB
                  rw [kA1, if_pos ⟨v1, by omega⟩]
                  unfold flM
                  rw [if_pos v1, mset_eq]
                have hp := (numM_ok hHG.2.1.2.2.2.1 (v + 1) 500).2.2.2
                have ks := kB_stop kb (by omega) c1
                refine ⟨_, rfl, fun c hc h5 => by rw [eW, mset_nka h5, ← hmQ, u1 c h5]; exact hF c hc h5, Or.inr ⟨rfl, by rw [hK, ks]; omega, by rw [hK, ks, eW, mset_eq, ← hmQ, v5]⟩⟩
            · refine ok_iconst F dX4_readKinds_51 ?_
              refine ok_zret F G dX4_readKinds_52 (by first | rfl | exact zb_nar) ?_
              obtain ⟨_, v1, v2⟩ := u2.resolve_left (fun q => by have := q.1; omega)
              have kf := (kA_eq hHG.1 (by omega) hlast hl0.1).2 v1
              have ks := kindsL_stop kf v1 c1
              refine ⟨_, rfl, fun c hc h5 => by rw [← hmQ, u1 c h5]; exact hF c hc h5, Or.inr ⟨rfl, by rw [hK, ks]; exact v1, by rw [hK, ks, ← hmQ]; exact v2⟩⟩
      refine ok_lvp [2, 1, 0] (lv' := [(0, pR 175), (1, pI 0), (2, pI 0)]) rfl ?_
      refine hL_32 _ 0 0 m_2 ?_ rfl
      rw [← hmW]
      refine ⟨ptT g, 10, by omega, by rw [htl], hH.of (by rw [p9t]; exact a1) hRTt (aT 2 (by decide)) (aT 7 (by decide)) (fun c c1 c2 => r1 c (by omega)) (d4 6 (by decide) (by decide)), by rw [aT 2 (by decide)]; exact h20, by rw [aT 2 (by decide)]; exact h21, by rw [aT 2 (by decide)]; exact h22, by rw [aT 2 (by decide)]; exact hS, by rw [aT 2 (by decide), if_pos h20], by omega, by omega, fun c _ hc => r1 c hc, d4 7 (by decide) (by decide)⟩
    · have hwf : ptW g 0 = false := by
        cases q : ptW g 0
        · rfl
        · rw [if_pos q] at c_5; omega
      refine ok_aload_n F dX4_readKinds_18 0 rfl ?_
      refine ok_aload_n F dX4_readKinds_19 0 rfl ?_
      refine ok_getf (v := m_2 175 4) F dX4_readKinds_20 kF_X4_63 sh_175 rfl rfl ?_
      refine ok_iconst F dX4_readKinds_23 ?_
      refine ok_callv F [pI (m_2 175 4), pI 1] dX4_readKinds_24 kM_X4_wrong kI_X4_wrong kV_X4_wrong kL_X4_59 (ci := 4) rfl sh_175 rfl (by decide) (Nat.le_of_ble_eq_true rfl) rfl (m_X4_wrong _ (m_2 175 4) 1 m_2) ?_
      rintro _ m_21 ⟨rfl, e_22⟩
      have eW := e_22
      refine ok_zret F G dX4_readKinds_27 (rfl) ?_
      obtain ⟨n1, n2⟩ := no9 hwf
      refine ⟨_, rfl, fun c _ hc => by rw [eW, mset_nka hc, ← hmW]; exact r1 c hc, Or.inr ⟨rfl, by rw [kindsL_bad n2]; exact n2, by rw [kindsL_bad n2, n1, eW, mset_eq, ← hmW, d2]⟩⟩
  · refine ok_iconst F dX4_readKinds_7 ?_
    refine ok_zret F G dX4_readKinds_8 (by first | rfl | exact zb_nar) ?_
    obtain ⟨_, d1, d2⟩ := r2.resolve_left (fun q => by have := q.1; omega)
    obtain ⟨n1, n2⟩ := no9 (ptW_no (by decide) d1)
    refine ⟨_, rfl, fun c _ hc => by rw [← hmW]; exact r1 c hc, Or.inr ⟨rfl, by rw [kindsL_bad n2]; exact n2, by rw [kindsL_bad n2, n1, ← hmW]; exact d2⟩⟩
