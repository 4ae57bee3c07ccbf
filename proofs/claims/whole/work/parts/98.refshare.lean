/-! the reference: share and mean -/
section PRD
variable {sh : List CS} {X : KX} {cc : ByteArray} {nL : Nat} {own : String} {pc : Nat} {lv : List (Nat × PV)} {st : List PV} {mem : Mem} {dp : Nat}
theorem ok_dcmp_eq (F : Fx sh X cc nL own dp) {x y : UInt64} {op : CmpOp} (d : decode cc pc = .ok (.dcmp op, 1)) (h : FP.dcmp x y = some .eq) (k : Ok sh X nL (pc + 1) lv (pI 0 :: st) mem) : Ok sh X nL pc lv (pD y :: pD x :: st) mem := by
  obtain ⟨⟨p, l, e, R, s, m, args, below, meth, c, Q⟩, D, ad, aC, adV, A, nc, ns⟩ := X
  obtain ⟨hx, hb, -⟩ := F
  intro H locs ls hP hS hl
  have kk := k H locs ls hP hS hl
  refine lv_dcmp hx hb d ?_
  have e : cmpValue (FP.dcmp x y) op = 0 := by rw [h]; rfl
  rw [e]
  exact kk
end PRD
theorem dJxe99ae_isNaN_b9ae7_0 : decode cJxe99ae_isNaN_b9ae7 0 = .ok (.dload_n 0, 1) := by decide +kernel
theorem dJxe99ae_isNaN_b9ae7_1 : decode cJxe99ae_isNaN_b9ae7 1 = .ok (.dload_n 0, 1) := by decide +kernel
theorem dJxe99ae_isNaN_b9ae7_2 : decode cJxe99ae_isNaN_b9ae7 2 = .ok (.dcmp .l, 1) := by decide +kernel
theorem dJxe99ae_isNaN_b9ae7_3 : decode cJxe99ae_isNaN_b9ae7 3 = .ok (.ifCond .eq 7, 3) := by decide +kernel
theorem dJxe99ae_isNaN_b9ae7_10 : decode cJxe99ae_isNaN_b9ae7 10 = .ok (.iconst 0, 1) := by decide +kernel
theorem dJxe99ae_isNaN_b9ae7_11 : decode cJxe99ae_isNaN_b9ae7 11 = .ok (.ireturn, 1) := by decide +kernel
set_option maxHeartbeats 4000000 in
set_option maxRecDepth 100000 in
theorem m_Jxe99ae_isNaN_b9ae7 (l : Launch) (v : UInt64) (mem : Mem) (hv : FP.dcmp v v = some .eq) : Ret shp l yJxe99ae_isNaN_b9ae7 cJxe99ae_isNaN_b9ae7 2 (some .boolean) 0 [pD v] mem (fun rv mv => rv = some (pI 0) ∧ mem = mv) := by
  refine ret_of (by decide +kernel) (Nat.le_of_ble_eq_true rfl) (fun X hX F G => ?_)
  show Ok shp X 2 0 [(0, pD v)] [] mem
  refine ok_dload_n F dJxe99ae_isNaN_b9ae7_0 0 rfl ?_
  refine ok_dload_n F dJxe99ae_isNaN_b9ae7_1 0 rfl ?_
  refine ok_dcmp_eq F dJxe99ae_isNaN_b9ae7_2 (hv) ?_
  refine ok_if_eq F 10 dJxe99ae_isNaN_b9ae7_3 (by decide) (by omega) (fun c_1 => ?_) (fun c_1 => ?_)
  · refine ok_iconst F dJxe99ae_isNaN_b9ae7_10 ?_
    refine ok_zret F G dJxe99ae_isNaN_b9ae7_11 (by first | rfl | exact zb_nar) ?_
    first | exact ⟨rfl, rfl⟩ | (exfalso; omega)
  · exfalso; omega
theorem dJxe99ae_doubleToLongBits_ccdee_0 : decode cJxe99ae_doubleToLongBits_ccdee 0 = .ok (.dload_n 0, 1) := by decide +kernel
theorem dJxe99ae_doubleToLongBits_ccdee_1 : decode cJxe99ae_doubleToLongBits_ccdee 1 = .ok (.invokestatic 122, 3) := by decide +kernel
theorem dJxe99ae_doubleToLongBits_ccdee_4 : decode cJxe99ae_doubleToLongBits_ccdee 4 = .ok (.ifCond .ne 8, 3) := by decide +kernel
theorem dJxe99ae_doubleToLongBits_ccdee_7 : decode cJxe99ae_doubleToLongBits_ccdee 7 = .ok (.dload_n 0, 1) := by decide +kernel
theorem dJxe99ae_doubleToLongBits_ccdee_8 : decode cJxe99ae_doubleToLongBits_ccdee 8 = .ok (.invokestatic 134, 3) := by decide +kernel
theorem dJxe99ae_doubleToLongBits_ccdee_11 : decode cJxe99ae_doubleToLongBits_ccdee 11 = .ok (.lreturn, 1) := by decide +kernel
set_option maxHeartbeats 4000000 in
set_option maxRecDepth 100000 in
theorem m_Jxe99ae_doubleToLongBits_ccdee (l : Launch) (v : UInt64) (mem : Mem) (hv : FP.dcmp v v = some .eq) : Ret shp l yJxe99ae_doubleToLongBits_ccdee cJxe99ae_doubleToLongBits_ccdee 2 (some .long) 1 [pD v] mem (fun rv mv => rv = some (pL (v.toInt64.toInt)) ∧ mem = mv) := by
  refine ret_of (by decide +kernel) (Nat.le_of_ble_eq_true rfl) (fun X hX F G => ?_)
  show Ok shp X 2 0 [(0, pD v)] [] mem
  refine ok_dload_n F dJxe99ae_doubleToLongBits_ccdee_0 0 rfl ?_
  refine ok_calls F [pD v] dJxe99ae_doubleToLongBits_ccdee_1 kM_Jxe99ae_isNaN_b9ae7 kS_Jxe99ae_isNaN_b9ae7 kL_Jxe99ae_122 rfl (by decide) (Nat.le_of_ble_eq_true rfl) rfl (m_Jxe99ae_isNaN_b9ae7 _ v mem (hv)) ?_
  rintro _ _ ⟨rfl, rfl⟩
  refine ok_if_ne F 12 dJxe99ae_doubleToLongBits_ccdee_4 (by decide) (by omega) (fun c_1 => ?_) (fun c_1 => ?_)
  · exfalso; omega
  · refine ok_dload_n F dJxe99ae_doubleToLongBits_ccdee_7 0 rfl ?_
    refine ok_d2raw F dJxe99ae_doubleToLongBits_ccdee_8 (by decide) (Nat.le_of_ble_eq_true rfl) ?_
    refine ok_lret F G dJxe99ae_doubleToLongBits_ccdee_11 ?_
    first | exact ⟨rfl, rfl⟩ | (exfalso; omega)
theorem dX8_share_0 : decode cX8_share 0 = .ok (.aload_n 0, 1) := by decide +kernel
theorem dX8_share_1 : decode cX8_share 1 = .ok (.aload_n 0, 1) := by decide +kernel
theorem dX8_share_2 : decode cX8_share 2 = .ok (.getfield 9, 3) := by decide +kernel
theorem dX8_share_5 : decode cX8_share 5 = .ok (.bipush 11, 2) := by decide +kernel
theorem dX8_share_7 : decode cX8_share 7 = .ok (.aload_n 0, 1) := by decide +kernel
theorem dX8_share_8 : decode cX8_share 8 = .ok (.getfield 9, 3) := by decide +kernel
theorem dX8_share_11 : decode cX8_share 11 = .ok (.iconst 0, 1) := by decide +kernel
theorem dX8_share_12 : decode cX8_share 12 = .ok (.iaload, 1) := by decide +kernel
theorem dX8_share_13 : decode cX8_share 13 = .ok (.sipush 2500, 3) := by decide +kernel
theorem dX8_share_16 : decode cX8_share 16 = .ok (.invokevirtual 202, 3) := by decide +kernel
theorem dX8_share_19 : decode cX8_share 19 = .ok (.iconst 0, 1) := by decide +kernel
theorem dX8_share_20 : decode cX8_share 20 = .ok (.istore_n 1, 1) := by decide +kernel
theorem dX8_share_21 : decode cX8_share 21 = .ok (.iconst 0, 1) := by decide +kernel
theorem dX8_share_22 : decode cX8_share 22 = .ok (.istore_n 2, 1) := by decide +kernel
theorem dX8_share_23 : decode cX8_share 23 = .ok (.iconst 0, 1) := by decide +kernel
theorem dX8_share_24 : decode cX8_share 24 = .ok (.istore_n 3, 1) := by decide +kernel
theorem dX8_share_25 : decode cX8_share 25 = .ok (.iload_n 3, 1) := by decide +kernel
theorem dX8_share_26 : decode cX8_share 26 = .ok (.sipush 2500, 3) := by decide +kernel
theorem dX8_share_29 : decode cX8_share 29 = .ok (.if_icmp .gt 44, 3) := by decide +kernel
theorem dX8_share_32 : decode cX8_share 32 = .ok (.aload_n 0, 1) := by decide +kernel
theorem dX8_share_33 : decode cX8_share 33 = .ok (.aload_n 0, 1) := by decide +kernel
theorem dX8_share_34 : decode cX8_share 34 = .ok (.getfield 9, 3) := by decide +kernel
theorem dX8_share_37 : decode cX8_share 37 = .ok (.iconst 0, 1) := by decide +kernel
theorem dX8_share_38 : decode cX8_share 38 = .ok (.iaload, 1) := by decide +kernel
theorem dX8_share_39 : decode cX8_share 39 = .ok (.iload_n 3, 1) := by decide +kernel
theorem dX8_share_40 : decode cX8_share 40 = .ok (.invokevirtual 206, 3) := by decide +kernel
theorem dX8_share_43 : decode cX8_share 43 = .ok (.ifCond .eq 24, 3) := by decide +kernel
theorem dX8_share_46 : decode cX8_share 46 = .ok (.iinc 1 1, 3) := by decide +kernel
theorem dX8_share_49 : decode cX8_share 49 = .ok (.iload_n 2, 1) := by decide +kernel
theorem dX8_share_50 : decode cX8_share 50 = .ok (.aload_n 0, 1) := by decide +kernel
theorem dX8_share_51 : decode cX8_share 51 = .ok (.getfield 33, 3) := by decide +kernel
theorem dX8_share_54 : decode cX8_share 54 = .ok (.aload_n 0, 1) := by decide +kernel
theorem dX8_share_55 : decode cX8_share 55 = .ok (.getfield 9, 3) := by decide +kernel
theorem dX8_share_58 : decode cX8_share 58 = .ok (.iconst 0, 1) := by decide +kernel
theorem dX8_share_59 : decode cX8_share 59 = .ok (.iaload, 1) := by decide +kernel
theorem dX8_share_60 : decode cX8_share 60 = .ok (.iload_n 3, 1) := by decide +kernel
theorem dX8_share_61 : decode cX8_share 61 = .ok (.invokestatic 194, 3) := by decide +kernel
theorem dX8_share_64 : decode cX8_share 64 = .ok (.iaload, 1) := by decide +kernel
theorem dX8_share_65 : decode cX8_share 65 = .ok (.iadd, 1) := by decide +kernel
theorem dX8_share_66 : decode cX8_share 66 = .ok (.istore_n 2, 1) := by decide +kernel
theorem dX8_share_67 : decode cX8_share 67 = .ok (.iinc 3 1, 3) := by decide +kernel
theorem dX8_share_70 : decode cX8_share 70 = .ok (.goto (-45), 3) := by decide +kernel
theorem dX8_share_73 : decode cX8_share 73 = .ok (.iload_n 2, 1) := by decide +kernel
theorem dX8_share_74 : decode cX8_share 74 = .ok (.i2d, 1) := by decide +kernel
theorem dX8_share_75 : decode cX8_share 75 = .ok (.iload_n 1, 1) := by decide +kernel
theorem dX8_share_76 : decode cX8_share 76 = .ok (.i2d, 1) := by decide +kernel
theorem dX8_share_77 : decode cX8_share 77 = .ok (.ddiv, 1) := by decide +kernel
theorem dX8_share_78 : decode cX8_share 78 = .ok (.invokestatic 337, 3) := by decide +kernel
theorem dX8_share_81 : decode cX8_share 81 = .ok (.lreturn, 1) := by decide +kernel
set_option maxHeartbeats 4000000 in
set_option maxRecDepth 100000 in
theorem m_X8_share (l : Launch) (mem : Mem) (hN : 0 ≤ mem 1 0 ∧ mem 1 0 ≤ 8) (hVl : ∀ i : Nat, (i : Int) < mem 1 0 → 1 ≤ mem 1 (3 + i) ∧ mem 1 (3 + i) ≤ 500) (hTl : ∀ k : Nat, k < 8 → 0 ≤ mem 1 (11 + k) ∧ mem 1 (11 + k) ≤ 99) : Ret shp l yX8_share cX8_share 4 (some .long) 4 [pR 0] mem (fun rv mv => ∃ z, rv = some (pL z) ∧ Keep mem mv ∧ z = qotB (shrF (fun i => (mem 1 (3 + i)).toNat) (fun i => (mem 1 (11 + i)).toNat) (mem 1 0).toNat 2501).1 (shrF (fun i => (mem 1 (3 + i)).toNat) (fun i => (mem 1 (11 + i)).toNat) (mem 1 0).toNat 2501).2) := by
  refine ret_of (by decide +kernel) (Nat.le_of_ble_eq_true rfl) (fun X hX F G => ?_)
  show Ok shp X 4 0 [(0, pR 0)] [] mem
  refine ok_aload_n F dX8_share_0 0 rfl ?_
  refine ok_aload_n F dX8_share_1 0 rfl ?_
  refine ok_getr F dX8_share_2 kF_X8_9 sh_0 rfl ?_
  refine ok_bipush F dX8_share_5 rfl ?_
  refine ok_aload_n F dX8_share_7 0 rfl ?_
  refine ok_getr F dX8_share_8 kF_X8_9 sh_0 rfl ?_
  refine ok_iconst F dX8_share_11 ?_
  refine ok_iald (v := mem 1 0) F dX8_share_12 sh_1 (by first | decide | assumption) (by omega) (by omega) rfl ?_
  refine ok_sipush F dX8_share_13 rfl ?_
  refine ok_callv F [pR 1, pI 11, pI (mem 1 0), pI 2500] dX8_share_16 kM_X8_laysFewest kI_X8_laysFewest kV_X8_laysFewest kL_X8_202 (ci := 8) rfl sh_0 rfl (by decide) (Nat.le_of_ble_eq_true rfl) rfl (m_X8_laysFewest _ 1 11 (mem 1 0) 2500 mem (459) (sh_1) (by decide) (by decide) (by decide) (by omega) (by omega) (by omega) (fun i hi => hVl i (by omega)) (fun i hi => ⟨(hTl i (by omega)).1, Int.le_trans (hTl i (by omega)).2 (by decide)⟩)) ?_
  rintro _ m_2 ⟨rfl, r_3⟩
  obtain ⟨hfr, hT0⟩ := id r_3
  have h1 := hfr 1 (by decide) (by decide)
  obtain ⟨mt, hmt⟩ : ∃ x, x = m_2 := ⟨_, rfl⟩
  have hT : ∀ x : Nat, x ≤ 2500 → m_2 8 (2501 * mem 1 0 + (x : Int)).toNat = fewT (fun i => (mem 1 (3 + i)).toNat) (fun i => (mem 1 (11 + i)).toNat) (mem 1 0).toNat x := fun x hx => by rw [show (2501 * mem 1 0 + (x : Int)).toNat = 2501 * (mem 1 0).toNat + x by omega]; exact hT0 _ (Nat.le_refl _) x hx
  refine ok_iconst F dX8_share_19 ?_
  refine ok_istore_n (lv' := [(1, pI 0), (0, pR 0)]) F dX8_share_20 (by decide) rfl ?_
  refine ok_iconst F dX8_share_21 ?_
  refine ok_istore_n (lv' := [(2, pI 0), (1, pI 0), (0, pR 0)]) F dX8_share_22 (by decide) rfl ?_
  refine ok_iconst F dX8_share_23 ?_
  refine ok_istore_n (lv' := [(3, pI 0), (2, pI 0), (1, pI 0), (0, pR 0)]) F dX8_share_24 (by decide) rfl ?_
  have hL_25 : ∀ (n_25 : Nat) (c : Int) (p : Int) (a : Int), (0 ≤ a ∧ a ≤ 2501 ∧ p = (shrF (fun i => (mem 1 (3 + i)).toNat) (fun i => (mem 1 (11 + i)).toNat) (mem 1 0).toNat a.toNat).1 ∧ c = (shrF (fun i => (mem 1 (3 + i)).toNat) (fun i => (mem 1 (11 + i)).toNat) (mem 1 0).toNat a.toNat).2 ∧ 0 ≤ p ∧ p ≤ 800 * a ∧ 0 ≤ c ∧ c ≤ a) → (2501 - a).toNat = n_25 → Ok shp X 4 25 [(0, pR 0), (1, pI c), (2, pI p), (3, pI a)] [] m_2 := by
    intro n_25
    induction n_25 using Nat.strongRecOn with
    | _ n_25 ih_25 =>
      intro c p a hI_25 hn_25
      refine ok_iload_n F dX8_share_25 3 rfl ?_
      refine ok_sipush F dX8_share_26 rfl ?_
      refine ok_icmp_gt F 73 dX8_share_29 (by decide) (by omega) (by omega) (fun c_4 => ?_) (fun c_4 => ?_)
      · have ea : a.toNat = 2501 := by omega
        rw [ea] at hI_25
        have hc1 := shr_1 (v := (fun i => (mem 1 (3 + i)).toNat)) (c := (fun i => (mem 1 (11 + i)).toNat)) (n := (mem 1 0).toNat) (a := 2501) (by decide)
        obtain ⟨R, hR, hRb, hRq⟩ := ddiv_fin (a := p) (b := c) (by omega) (by omega)
        refine ok_iload_n F dX8_share_73 2 rfl ?_
        refine ok_i2d F dX8_share_74 ?_
        refine ok_iload_n F dX8_share_75 1 rfl ?_
        refine ok_i2d F dX8_share_76 ?_
        refine ok_ddiv F dX8_share_77 (by rw [hR]; exact (fin_bits hRb).1) ?_
        refine ok_calls F [pD (FP.ddiv (i2d p) (i2d c))] dX8_share_78 kM_Jxe99ae_doubleToLongBits_ccdee kS_Jxe99ae_doubleToLongBits_ccdee kL_X8_337 rfl (by decide) (Nat.le_of_ble_eq_true rfl) rfl (m_Jxe99ae_doubleToLongBits_ccdee _ (FP.ddiv (i2d p) (i2d c)) m_2 (by rw [hR]; exact (fin_bits hRb).2.1)) ?_
        rintro _ _ ⟨rfl, rfl⟩
        refine ok_lret F G dX8_share_81 ?_
        refine ⟨_, rfl, Keep.f2 hfr, ?_⟩
        rw [hR, (fin_bits hRb).2.2, hRq, hI_25.2.2.1, hI_25.2.2.2.1]
      · have e := hT a.toNat (by omega)
        rw [show ((a.toNat : Nat) : Int) = a by omega] at e
        have hb := fewT_bd (fun i => (mem 1 (3 + i)).toNat) (fun i => (mem 1 (11 + i)).toNat) (mem 1 0).toNat a.toNat
        have h9 := few_99 (v := (fun i => (mem 1 (3 + i)).toNat)) (c := (fun i => (mem 1 (11 + i)).toNat)) (n := (mem 1 0).toNat) (fun i hi => by show (mem 1 (11 + i)).toNat ≤ 99; have := hTl i (by omega); omega) a.toNat
        refine ok_aload_n F dX8_share_32 0 rfl ?_
        refine ok_aload_n F dX8_share_33 0 rfl ?_
        refine ok_getr F dX8_share_34 kF_X8_9 sh_0 rfl ?_
        refine ok_iconst F dX8_share_37 ?_
        refine ok_iald (v := mem 1 0) F dX8_share_38 sh_1 (by first | decide | assumption) (by omega) (by omega) (by rw [(r_3.1 1 (by decide) (by decide))] <;> rfl) ?_
        refine ok_iload_n F dX8_share_39 3 rfl ?_
        refine ok_callv F [pI (mem 1 0), pI a] dX8_share_40 kM_X8_hasChange kI_X8_hasChange kV_X8_hasChange kL_X8_206 (ci := 8) rfl sh_0 rfl (by decide) (Nat.le_of_ble_eq_true rfl) rfl (m_X8_hasChange _ (mem 1 0) a m_2 (by omega) (by omega) (by rw [e]; exact hb)) ?_
        rintro _ _ ⟨rfl, rfl⟩
        refine ok_if_eq F 67 dX8_share_43 (by decide) (by omega) (fun c_5 => ?_) (fun c_5 => ?_)
        · refine ok_iinc (lv' := [(3, pI (a + 1)), (0, pR 0), (1, pI c), (2, pI p)]) F dX8_share_67 3 rfl (by decide) rfl ?_
          refine ok_goto F 25 dX8_share_70 (by decide) ?_
          refine ok_lvp [1, 2, 3, 0] (lv' := [(0, pR 0), (1, pI c), (2, pI p), (3, pI (a + 1))]) rfl ?_
          refine ih_25 _ ?_ c p (a + 1) ?_ rfl
          · omega
          · refine ⟨by omega, by omega, ?_, ?_, by omega, by omega, by omega, by omega⟩
            all_goals rw [shrF_s _ _ _ hI_25.1]
            all_goals first
              | (rw [if_neg (show ¬ fewT (fun i => (mem 1 (3 + i)).toNat) (fun i => (mem 1 (11 + i)).toNat) (mem 1 0).toNat a.toNat < 1000000 by omega)]; first | exact hI_25.2.2.1 | exact hI_25.2.2.2.1)
              | (rw [if_pos (show fewT (fun i => (mem 1 (3 + i)).toNat) (fun i => (mem 1 (11 + i)).toNat) (mem 1 0).toNat a.toNat < 1000000 by omega)] <;> (try dsimp only) <;> omega)
        · refine ok_iinc (lv' := [(1, pI (c + 1)), (0, pR 0), (2, pI p), (3, pI a)]) F dX8_share_46 1 rfl (by decide) rfl ?_
          refine ok_iload_n F dX8_share_49 2 rfl ?_
          refine ok_aload_n F dX8_share_50 1 rfl ?_
          refine ok_getr F dX8_share_51 kF_X8_33 sh_0 rfl ?_
          refine ok_aload_n F dX8_share_54 1 rfl ?_
          refine ok_getr F dX8_share_55 kF_X8_9 sh_0 rfl ?_
          refine ok_iconst F dX8_share_58 ?_
          refine ok_iald (v := mem 1 0) F dX8_share_59 sh_1 (by first | decide | assumption) (by omega) (by omega) (by rw [(r_3.1 1 (by decide) (by decide))] <;> rfl) ?_
          refine ok_iload_n F dX8_share_60 3 rfl ?_
          refine ok_calls F [pI (mem 1 0), pI a] dX8_share_61 kM_X8_cell kS_X8_cell kL_X8_194 rfl (by decide) (Nat.le_of_ble_eq_true rfl) rfl (m_X8_cell _ (mem 1 0) a m_2) ?_
          rintro _ _ ⟨rfl, rfl⟩
          refine ok_iald (v := m_2 8 ((2501 * (mem 1 0) + a).toNat)) F dX8_share_64 sh_8 (by first | decide | assumption) (by omega) (by omega) rfl ?_
          refine ok_iadd F dX8_share_65 ?_
          refine ok_istore_n (lv' := [(2, pI (p + (m_2 8 ((2501 * (mem 1 0) + a).toNat)))), (1, pI (c + 1)), (0, pR 0), (3, pI a)]) F dX8_share_66 (by decide) rfl ?_
          refine ok_iinc (lv' := [(3, pI (a + 1)), (2, pI (p + (m_2 8 ((2501 * (mem 1 0) + a).toNat)))), (1, pI (c + 1)), (0, pR 0)]) F dX8_share_67 3 rfl (by decide) rfl ?_
          refine ok_goto F 25 dX8_share_70 (by decide) ?_
          refine ok_lvp [3, 2, 1, 0] (lv' := [(0, pR 0), (1, pI (c + 1)), (2, pI (p + (m_2 8 ((2501 * (mem 1 0) + a).toNat)))), (3, pI (a + 1))]) rfl ?_
          refine ih_25 _ ?_ (c + 1) (p + (m_2 8 ((2501 * (mem 1 0) + a).toNat))) (a + 1) ?_ rfl
          · omega
          · refine ⟨by omega, by omega, ?_, ?_, by omega, by omega, by omega, by omega⟩
            all_goals rw [shrF_s _ _ _ hI_25.1]
            all_goals first
              | (rw [if_neg (show ¬ fewT (fun i => (mem 1 (3 + i)).toNat) (fun i => (mem 1 (11 + i)).toNat) (mem 1 0).toNat a.toNat < 1000000 by omega)]; first | exact hI_25.2.2.1 | exact hI_25.2.2.2.1)
              | (rw [if_pos (show fewT (fun i => (mem 1 (3 + i)).toNat) (fun i => (mem 1 (11 + i)).toNat) (mem 1 0).toNat a.toNat < 1000000 by omega)] <;> (try dsimp only) <;> omega)
  refine ok_lvp [3, 2, 1, 0] (lv' := [(0, pR 0), (1, pI 0), (2, pI 0), (3, pI 0)]) rfl ?_
  refine hL_25 _ 0 0 0 ?_ rfl
  exact ⟨by omega, by omega, rfl, rfl, by omega, by omega, by omega, by omega⟩
theorem dX8_mean_0 : decode cX8_mean 0 = .ok (.aload_n 0, 1) := by decide +kernel
theorem dX8_mean_1 : decode cX8_mean 1 = .ok (.iload_n 1, 1) := by decide +kernel
theorem dX8_mean_2 : decode cX8_mean 2 = .ok (.invokevirtual 285, 3) := by decide +kernel
theorem dX8_mean_5 : decode cX8_mean 5 = .ok (.ifCond .ne 7, 3) := by decide +kernel
theorem dX8_mean_8 : decode cX8_mean 8 = .ok (.ldc2_w 310, 3) := by decide +kernel
theorem dX8_mean_11 : decode cX8_mean 11 = .ok (.lreturn, 1) := by decide +kernel
theorem dX8_mean_12 : decode cX8_mean 12 = .ok (.aload_n 0, 1) := by decide +kernel
theorem dX8_mean_13 : decode cX8_mean 13 = .ok (.iload_n 1, 1) := by decide +kernel
theorem dX8_mean_14 : decode cX8_mean 14 = .ok (.invokevirtual 288, 3) := by decide +kernel
theorem dX8_mean_17 : decode cX8_mean 17 = .ok (.aload_n 0, 1) := by decide +kernel
theorem dX8_mean_18 : decode cX8_mean 18 = .ok (.getfield 261, 3) := by decide +kernel
theorem dX8_mean_21 : decode cX8_mean 21 = .ok (.ifCond .ne 7, 3) := by decide +kernel
theorem dX8_mean_24 : decode cX8_mean 24 = .ok (.dconst 0, 1) := by decide +kernel
theorem dX8_mean_25 : decode cX8_mean 25 = .ok (.goto 14, 3) := by decide +kernel
theorem dX8_mean_28 : decode cX8_mean 28 = .ok (.aload_n 0, 1) := by decide +kernel
theorem dX8_mean_29 : decode cX8_mean 29 = .ok (.getfield 255, 3) := by decide +kernel
theorem dX8_mean_32 : decode cX8_mean 32 = .ok (.i2d, 1) := by decide +kernel
theorem dX8_mean_33 : decode cX8_mean 33 = .ok (.aload_n 0, 1) := by decide +kernel
theorem dX8_mean_34 : decode cX8_mean 34 = .ok (.getfield 261, 3) := by decide +kernel
theorem dX8_mean_37 : decode cX8_mean 37 = .ok (.i2d, 1) := by decide +kernel
theorem dX8_mean_38 : decode cX8_mean 38 = .ok (.ddiv, 1) := by decide +kernel
theorem dX8_mean_39 : decode cX8_mean 39 = .ok (.invokestatic 337, 3) := by decide +kernel
theorem dX8_mean_42 : decode cX8_mean 42 = .ok (.lreturn, 1) := by decide +kernel
set_option maxHeartbeats 4000000 in
set_option maxRecDepth 100000 in
theorem m_X8_mean (l : Launch) (d : Int) (mem : Mem) (hd : i32 d) (hN1 : 0 ≤ mem 1 1 ∧ mem 1 1 ≤ 5) (hN : 0 ≤ mem 1 0 ∧ mem 1 0 ≤ 8) (hVl : ∀ i : Nat, (i : Int) < mem 1 0 → 1 ≤ mem 1 (3 + i) ∧ mem 1 (3 + i) ≤ 500) (hN2 : 0 ≤ mem 1 2 ∧ mem 1 2 ≤ 40) (hR : ∀ b, i32 (mem 1 b)) (hAb : ∀ s : Nat, (s : Int) < mem 1 2 → 0 ≤ abvS (mem 1) s ∧ abvS (mem 1) s ≤ 2500) (hG : ∀ s : Nat, (s : Int) < mem 1 2 → ∀ k : Nat, k < 8 → 0 ≤ sGiven (mem 1) s k ∧ sGiven (mem 1) s k ≤ 5) (hTl : ∀ k : Nat, k < 8 → 0 ≤ mem 1 (11 + k) ∧ mem 1 (11 + k) ≤ 99) : Ret shp l yX8_mean cX8_mean 2 (some .long) 7 [pR 0, pI d] mem (fun rv mv => ∃ z, rv = some (pL z) ∧ Keep mem mv ∧ z = if 0 ≤ d ∧ d < mem 1 1 then qotB (lifeD mem d).2.2.2.1 (lifeD mem d).2.2.2.2.1 else -1) := by
  refine ret_of (by decide +kernel) (Nat.le_of_ble_eq_true rfl) (fun X hX F G => ?_)
  show Ok shp X 2 0 [(0, pR 0), (1, pI d)] [] mem
  refine ok_aload_n F dX8_mean_0 0 rfl ?_
  refine ok_iload_n F dX8_mean_1 1 rfl ?_
  refine ok_callv F [pI d] dX8_mean_2 kM_X8_isDay kI_X8_isDay kV_X8_isDay kL_X8_285 (ci := 8) rfl sh_0 rfl (by decide) (Nat.le_of_ble_eq_true rfl) rfl (m_X8_isDay _ d mem (by omega) (by omega)) ?_
  rintro _ _ ⟨rfl, rfl⟩
  refine ok_if_ne F 12 dX8_mean_5 (by decide) (by first | omega | exact hR _) (fun c_1 => ?_) (fun c_1 => ?_)
  · refine ok_aload_n F dX8_mean_12 0 rfl ?_
    refine ok_iload_n F dX8_mean_13 1 rfl ?_
    refine ok_callv F [pI d] dX8_mean_14 kM_X8_livesNow kI_X8_livesNow kV_X8_livesNow kL_X8_288 (ci := 8) rfl sh_0 rfl (by decide) (Nat.le_of_ble_eq_true rfl) rfl (m_X8_livesNow _ d mem (by omega) (hN) (hVl) (hN2) (hR) (hAb) (hG) (hTl)) ?_
    rintro _ m_3 ⟨rfl, r_4⟩
    obtain ⟨hF, hF0, nu, hL⟩ := id r_4
    obtain ⟨r1, r2, r3, r4, r5, r6, r7, r8, r9⟩ := id hL
    have hB : LB (mem 1 2).toNat (lifeD mem d) := lifeD_bd hN.2 hTl hG
    obtain ⟨b1, b2, b3, b4, b5, b6, b7⟩ := hB
    have hpc := lifeN_pc (m1 := mem 1) (d := d) (L := life0 (tillW mem) (mem 16)) rfl (mem 1 2).toNat
    refine ok_aload_n F dX8_mean_17 0 rfl ?_
    refine ok_getf (v := m_3 0 23) F dX8_mean_18 kF_X8_261 sh_0 rfl rfl ?_
    refine ok_if_ne F 28 dX8_mean_21 (by decide) (by first | omega | exact hR _) (fun c_5 => ?_) (fun c_5 => ?_)
    · have hpc2 : 0 ≤ (lifeD mem d).2.2.2.1 ∧ (lifeD mem d).2.2.2.1 ≤ (mem 1 2).toNat * 1000000 := hpc
      obtain ⟨R, hR, hRb, hRq⟩ := ddiv_fin (a := m_3 0 22) (b := m_3 0 23) (by omega) (by omega)
      refine ok_aload_n F dX8_mean_28 0 rfl ?_
      refine ok_getf (v := m_3 0 22) F dX8_mean_29 kF_X8_255 sh_0 rfl rfl ?_
      refine ok_i2d F dX8_mean_32 ?_
      refine ok_aload_n F dX8_mean_33 0 rfl ?_
      refine ok_getf (v := m_3 0 23) F dX8_mean_34 kF_X8_261 sh_0 rfl rfl ?_
      refine ok_i2d F dX8_mean_37 ?_
      refine ok_ddiv F dX8_mean_38 (by rw [hR]; exact (fin_bits hRb).1) ?_
      refine ok_calls F [pD (FP.ddiv (i2d (m_3 0 22)) (i2d (m_3 0 23)))] dX8_mean_39 kM_Jxe99ae_doubleToLongBits_ccdee kS_Jxe99ae_doubleToLongBits_ccdee kL_X8_337 rfl (by decide) (Nat.le_of_ble_eq_true rfl) rfl (m_Jxe99ae_doubleToLongBits_ccdee _ (FP.ddiv (i2d (m_3 0 22)) (i2d (m_3 0 23))) m_3 (by first | (rw [hR]; exact (fin_bits hRb).2.1) | decide +kernel)) ?_
      rintro _ _ ⟨rfl, rfl⟩
      refine ok_lret F G dX8_mean_42 ?_
      refine ⟨_, rfl, Keep.f7 hF hF0, ?_⟩
      rw [if_pos (by omega)]
      first
        | (rw [hR, (fin_bits hRb).2.2, hRq, r4, r5]; done)
        | (unfold qotB; rw [if_pos (Or.inr (by omega))]; rfl)
    · refine ok_dconst0 F dX8_mean_24 ?_
      refine ok_goto F 39 dX8_mean_25 (by decide) ?_
      refine ok_calls F [pD FP.dconst0] dX8_mean_39 kM_Jxe99ae_doubleToLongBits_ccdee kS_Jxe99ae_doubleToLongBits_ccdee kL_X8_337 rfl (by decide) (Nat.le_of_ble_eq_true rfl) rfl (m_Jxe99ae_doubleToLongBits_ccdee _ FP.dconst0 m_3 (by first | (rw [hR]; exact (fin_bits hRb).2.1) | decide +kernel)) ?_
      rintro _ _ ⟨rfl, rfl⟩
      refine ok_lret F G dX8_mean_42 ?_
      refine ⟨_, rfl, Keep.f7 hF hF0, ?_⟩
      rw [if_pos (by omega)]
      first
        | (rw [hR, (fin_bits hRb).2.2, hRq, r4, r5]; done)
        | (unfold qotB; rw [if_pos (Or.inr (by omega))]; rfl)
  · refine ok_ldc2 (n := -1) F dX8_mean_8 kJ_X8_310 rfl ?_
    refine ok_lret F G dX8_mean_11 ?_
    exact ⟨_, rfl, Keep.rf _, by rw [if_neg (by omega)]⟩
