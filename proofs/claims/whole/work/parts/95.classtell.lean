/-! the class: tell -/
theorem pcR : ∀ (n : Nat) (c t w : Int) (m : Mem), RdOk m → RdOk (pcL n c t w m).1
  | 0, _, _, _, _, hok => hok
  | n + 1, c, t, w, m, hok => by
    have a := (qD_ok hok c t).1
    rw [pcL_s]
    by_cases q : qMore m c t = true
    · rw [if_pos q]; exact pcR n _ _ _ _ a
    · rw [if_neg q]; exact a
theorem saleR {m : Mem} (hok : RdOk m) {p : Int} (hp : 0 ≤ p ∧ p ≤ 400) : RdOk (saleM m p) := by
  obtain ⟨_, oB, _⟩ := sB_ok hok hp
  have f := pcR 7 0 (sTo (sB m p)) 0 (sE (sB m p)) (sE_ok oB).1
  have gz : RdOk (sG (sB m p)) := by
    unfold sG
    split
    · exact flM_ok f (by decide) f.2.2.2
    · exact f
  unfold saleM
  split
  · exact gz.cell (mset_nka (by decide))
  · exact oB
theorem partR {m : Mem} (hok : RdOk m) : RdOk (partM m) := by
  obtain ⟨pD, pT, pP, aD, aT, eP1, pid, hle, pN, p99, p9t⟩ := pt_ok hok
  unfold partM
  split
  · exact (readRowM_ok pT pP (by decide)).1
  · split
    · exact (readRowM_ok pT pP (by decide)).1
    · split
      · exact (readRowM_ok pT pP (by decide)).1
      · split
        · exact (readRowM_ok pT pP (by decide)).1
        · split
          · exact (dayM_ok pT pP).1
          · split
            · exact saleR pT pP
            · exact flM_ok pD (by decide) pP
theorem partsR : ∀ (n : Nat) (m : Mem), RdOk m → RdOk (partsL n m)
  | 0, _, h => h
  | n + 1, m, h => by
    rw [partsL_s]
    by_cases z2 : goesP m = true
    · rw [if_pos z2]
      exact partsR n _ (partR (ptS_ok h (of_decide_eq_true z2).2).1)
    · rw [if_neg z2]
      exact (stopP_ok h).1
theorem kindsR : ∀ (n : Nat) (m : Mem), RdOk m → RdOk (kindsL n m)
  | 0, _, h => h
  | n + 1, m, h => by
    rw [kindsL_s]
    by_cases q : kMore m = true
    · rw [if_pos q]; exact kindsR n _ (kD_ok h).1
    · rw [if_neg q]; exact (kD_ok h).1
theorem tellR {g : Mem} (hT : 0 ≤ g 0 7 ∧ g 0 7 ≤ 400) (h10 : 0 ≤ g 0 10 ∧ g 0 10 ≤ 400) : RdOk (tellH g) := (tl3_ok (partsR 402 _ (kindsR 10 _ (tl1_ok (tl0_ok hT h10).1).1))).1
theorem dX7_tell_0 : decode cX7_tell 0 = .ok (.aload_n 0, 1) := by decide +kernel
theorem dX7_tell_1 : decode cX7_tell 1 = .ok (.getfield 19, 3) := by decide +kernel
theorem dX7_tell_4 : decode cX7_tell 4 = .ok (.aload_n 0, 1) := by decide +kernel
theorem dX7_tell_5 : decode cX7_tell 5 = .ok (.getfield 81, 3) := by decide +kernel
theorem dX7_tell_8 : decode cX7_tell 8 = .ok (.invokevirtual 89, 3) := by decide +kernel
theorem dX7_tell_11 : decode cX7_tell 11 = .ok (.istore_n 1, 1) := by decide +kernel
theorem dX7_tell_12 : decode cX7_tell 12 = .ok (.aload_n 0, 1) := by decide +kernel
theorem dX7_tell_13 : decode cX7_tell 13 = .ok (.iconst 0, 1) := by decide +kernel
theorem dX7_tell_14 : decode cX7_tell 14 = .ok (.putfield 81, 3) := by decide +kernel
theorem dX7_tell_17 : decode cX7_tell 17 = .ok (.iload_n 1, 1) := by decide +kernel
theorem dX7_tell_18 : decode cX7_tell 18 = .ok (.ifCond .eq 8, 3) := by decide +kernel
theorem dX7_tell_21 : decode cX7_tell 21 = .ok (.bipush (-2), 2) := by decide +kernel
theorem dX7_tell_23 : decode cX7_tell 23 = .ok (.iload_n 1, 1) := by decide +kernel
theorem dX7_tell_24 : decode cX7_tell 24 = .ok (.isub, 1) := by decide +kernel
theorem dX7_tell_25 : decode cX7_tell 25 = .ok (.ireturn, 1) := by decide +kernel
theorem dX7_tell_26 : decode cX7_tell 26 = .ok (.aload_n 0, 1) := by decide +kernel
theorem dX7_tell_27 : decode cX7_tell 27 = .ok (.getfield 10, 3) := by decide +kernel
theorem dX7_tell_30 : decode cX7_tell 30 = .ok (.aload_n 0, 1) := by decide +kernel
theorem dX7_tell_31 : decode cX7_tell 31 = .ok (.getfield 19, 3) := by decide +kernel
theorem dX7_tell_34 : decode cX7_tell 34 = .ok (.getfield 93, 3) := by decide +kernel
theorem dX7_tell_37 : decode cX7_tell 37 = .ok (.invokevirtual 96, 3) := by decide +kernel
theorem dX7_tell_40 : decode cX7_tell 40 = .ok (.aload_n 0, 1) := by decide +kernel
theorem dX7_tell_41 : decode cX7_tell 41 = .ok (.iconst 0, 1) := by decide +kernel
theorem dX7_tell_42 : decode cX7_tell 42 = .ok (.putfield 100, 3) := by decide +kernel
theorem dX7_tell_45 : decode cX7_tell 45 = .ok (.aload_n 0, 1) := by decide +kernel
theorem dX7_tell_46 : decode cX7_tell 46 = .ok (.getfield 10, 3) := by decide +kernel
theorem dX7_tell_49 : decode cX7_tell 49 = .ok (.getfield 103, 3) := by decide +kernel
theorem dX7_tell_52 : decode cX7_tell 52 = .ok (.ireturn, 1) := by decide +kernel
set_option maxHeartbeats 4000000 in
set_option maxRecDepth 100000 in
theorem m_X7_tell (l : Launch) (g : Mem) (mem : Mem) (h3 : mem 20 3 = g 0 7) (hTp : ∀ p : Nat, p < 400 → mem 176 p = iand (g 6 p) 255) (hT0 : 0 ≤ g 0 7 ∧ g 0 7 ≤ 400) (h10 : 0 ≤ g 0 10 ∧ g 0 10 ≤ 400) (hBy : ∀ k : Nat, -128 ≤ g 6 k ∧ g 6 k ≤ 127) (hZ : ∀ k : Nat, 459 ≤ k → g 2 k = 0) (hZ7 : ∀ k : Nat, g 7 k = 0 ∨ g 7 k = 1) : Ret shp l yX7_tell cX7_tell 2 (some .int) 7 [pR 20] mem (fun rv mv => ∃ z, rv = some (pI z) ∧ (∀ c, (c < 20 ∨ 42 < c) → c ≠ 175 → mv c = mem c) ∧ (∀ j, j ≠ 3 → j ≠ 6 → mv 20 j = mem 20 j) ∧ mv 20 3 = 0 ∧ (tellH g 0 9 = -1 ∧ z = tellH g 2 0 ∧ mv 20 6 = 0 ∧ RS mv 21 (tellH g 2) ∧ GR (tellH g 2) ∧ (∀ j : Nat, 59 + 10 * (tellH g 2 2).toNat ≤ j → tellH g 2 j = 0) ∧ (1 ≤ tellH g 2 1 → 1 ≤ tellH g 2 0) ∨ tellH g 0 9 ≠ -1 ∧ z = -2 - tellH g 0 9 ∧ mv 20 6 = mem 20 6 ∧ ∀ c, 21 ≤ c → c ≤ 31 → mv c = mem c)) := by
  refine ret_of (by decide +kernel) (Nat.le_of_ble_eq_true rfl) (fun X hX F G => ?_)
  show Ok shp X 2 0 [(0, pR 20)] [] mem
  have hTR := (tellR hT0 h10).2.2.1
  obtain ⟨T, hTd⟩ : ∃ x, x = tellH g := ⟨_, rfl⟩
  rw [← hTd] at hTR
  refine ok_aload_n F dX7_tell_0 0 rfl ?_
  refine ok_getr F dX7_tell_1 kF_X7_19 sh_20 rfl ?_
  refine ok_aload_n F dX7_tell_4 0 rfl ?_
  refine ok_getf (v := mem 20 3) F dX7_tell_5 kF_X7_81 sh_20 rfl rfl ?_
  refine ok_callv F [pI (mem 20 3)] dX7_tell_8 kM_X4_read kI_X4_read kV_X4_read kL_X7_89 (ci := 4) rfl sh_175 rfl (by decide) (Nat.le_of_ble_eq_true rfl) rfl (m_X4_read _ g (mem 20 3) mem (by omega) (by omega) (by omega) (by omega) (by omega) (by omega) (by omega)) ?_
  rintro _ m_2 ⟨z_1, rfl, r_3⟩
  obtain ⟨r1, r2⟩ := id r_3
  rw [← hTd] at r2 r_3
  obtain ⟨mR, hmR⟩ : ∃ x, x = m_2 := ⟨_, rfl⟩
  rw [← hmR] at r1 r2
  have hzc : z_1 = 0 ∧ T 0 9 = -1 ∨ z_1 ≠ 0 ∧ z_1 = T 0 9 ∧ T 0 9 ≠ -1 := r2.elim (fun w => Or.inl ⟨w.2.1, w.1⟩) (fun w => Or.inr ⟨w.2.2, w.2.1, w.1⟩)
  refine ok_istore_n (lv' := [(1, pI z_1), (0, pR 20)]) F dX7_tell_11 (by decide) rfl ?_
  refine ok_aload_n F dX7_tell_12 1 rfl ?_
  refine ok_iconst F dX7_tell_13 ?_
  refine ok_putf F dX7_tell_14 kF_X7_81 sh_20 rfl rfl rfl (fun m_4 e_5 => ?_)
  have e3 := e_5
  obtain ⟨mZ, hmZ⟩ : ∃ x, x = m_4 := ⟨_, rfl⟩
  rw [← hmZ, ← hmR] at e3
  refine ok_iload_n F dX7_tell_17 0 rfl ?_
  refine ok_if_eq F 26 dX7_tell_18 (by decide) (by omega) (fun c_6 => ?_) (fun c_6 => ?_)
  · obtain ⟨t1, t2, t3, t4⟩ := r2.resolve_right (fun w => w.2.2 (by omega))
    refine ok_aload_n F dX7_tell_26 1 rfl ?_
    refine ok_getr F dX7_tell_27 kF_X7_10 sh_20 rfl ?_
    refine ok_aload_n F dX7_tell_30 1 rfl ?_
    refine ok_getr F dX7_tell_31 kF_X7_19 sh_20 rfl ?_
    refine ok_getr F dX7_tell_34 kF_X7_93 sh_175 rfl ?_
    refine ok_callv F [pR 32] dX7_tell_37 kM_X6_copyFrom kI_X6_copyFrom kV_X6_copyFrom kL_X7_96 (ci := 6) rfl sh_21 rfl (by decide) (Nat.le_of_ble_eq_true rfl) rfl (m_X6_copyFrom _ 0 1 m_4 (by omega) (by omega) (by omega)) ?_
    rintro _ m_7 ⟨rfl, e_8⟩
    have eC := e_8
    obtain ⟨mC, hmC⟩ : ∃ x, x = m_7 := ⟨_, rfl⟩
    rw [← hmC, ← hmZ] at eC
    refine ok_aload_n F dX7_tell_40 1 rfl ?_
    refine ok_iconst F dX7_tell_41 ?_
    refine ok_putf F dX7_tell_42 kF_X7_100 sh_20 rfl rfl rfl (fun m_9 e_10 => ?_)
    refine ok_aload_n F dX7_tell_45 1 rfl ?_
    refine ok_getr F dX7_tell_46 kF_X7_10 sh_20 rfl ?_
    refine ok_getf (v := m_7 21 0) F dX7_tell_49 kF_X7_103 sh_21 rfl (by rw [e_10, mset_nk (by decide)] <;> rfl) ?_
    refine ok_iret F G dX7_tell_52 ?_
    have e6 := e_10
    have h32 : RS mZ 32 (T 2) := t3.2.2.1.congr (fun a a1 a2 => by rw [e3]; exact mset_nka (by omega))
    have hGR := t3.2.2.2.1
    have h21 : RS mC 21 (T 2) := by rw [eC]; exact h32.cpy hGR
    have oC : ∀ c, (c < 21 ∨ 31 < c) → mC c = mZ c := fun c hc => by rw [eC]; exact cpyS_ne (by unfold stB; omega)
    rw [← hmC] at e6
    obtain ⟨mE, hmE⟩ : ∃ x, x = m_9 := ⟨_, rfl⟩
    rw [← hmE] at e6
    refine ⟨_, rfl, ?_⟩
    rw [← hTd, ← hmE]
    have oE : ∀ c, c ≠ 20 → mE c = mC c := fun c hc => by rw [e6]; exact mset_nka hc
    refine ⟨fun c hc h5 => by rw [oE c (by omega), oC c (by omega), e3, mset_nka (by omega)]; exact r1 c (by omega) h5, fun j j3 j6 => by rw [e6, mset_ne (fun q => j6 q.2), oC 20 (by decide), e3, mset_ne (fun q => j3 q.2), r1 20 (by decide) (by decide)], by rw [e6, mset_ne (by decide), oC 20 (by decide), e3, mset_eq], Or.inl ⟨t1, by rw [← hmC]; exact h21.1, by rw [e6, mset_eq], h21.congr (fun c c1 c2 => oE c (by omega)), hGR, t3.2.2.2.2.1, t3.2.2.2.2.2.2.2.2⟩⟩
  · refine ok_bipush F dX7_tell_21 rfl ?_
    refine ok_iload_n F dX7_tell_23 0 rfl ?_
    refine ok_isub F dX7_tell_24 ?_
    refine ok_iret F G dX7_tell_25 ?_
    refine ⟨_, rfl, ?_⟩
    rw [← hTd, ← hmZ, e3]
    have zz := hzc.resolve_left (fun w => by have := w.1; omega)
    refine ⟨fun c hc h5 => by rw [mset_nka (by omega)]; exact r1 c (by omega) h5, fun j j3 j6 => by rw [mset_ne (fun q => j3 q.2), r1 20 (by decide) (by decide)], mset_eq _ _ _ _, Or.inr ⟨zz.2.2, by rw [zz.2.1], by rw [mset_ne (by decide), r1 20 (by decide) (by decide)], fun c c1 c2 => by rw [mset_nka (by omega)]; exact r1 c (by omega) (by omega)⟩⟩
