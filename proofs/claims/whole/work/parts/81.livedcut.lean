set_option maxHeartbeats 4000000 in
set_option maxRecDepth 100000 in
theorem m_X2_isLivedWhole_n (l : Launch) (f : Nat → Int) (R : Nat) (d : Int) (mem : Mem) (hCI : CI mem) (hRS : RS mem 21 f) (hG : GR f) (hR : shp[R]? = some (.inr (.inl (0, 8)))) (hRn : R = 180 ∨ R < 179 ∨ 206 < R) (hW : ∀ k : Nat, (k : Int) < f 0 → 0 ≤ mem R k ∧ mem R k ≤ 99) (hd : 0 ≤ d ∧ d < f 1) : Ret shp l yX2_isLivedWhole cX2_isLivedWhole 6 (some .boolean) 5 [pR 179, pR R, pR 21, pI d] mem (fun rv mv => ∃ z, rv = some (pI z) ∧ (∀ c, c < 179 ∨ 206 < c → mv c = mem c) ∧ CI mv ∧ z = if (lifeN f d (life0 (mem R) (fun _ => 0)) (f 2).toNat).2.2.1 = 0 then 1 else 0) := by
  refine ret_of (by decide +kernel) (Nat.le_of_ble_eq_true rfl) (fun X hX F G => ?_)
  show Ok shp X 6 0 [(0, pR 179), (1, pR R), (2, pR 21), (3, pI d)] [] mem
  refine ok_aload_n F dX2_isLivedWhole_0 0 rfl ?_
  refine ok_aload_n F dX2_isLivedWhole_1 1 rfl ?_
  refine ok_callv F [pR R] dX2_isLivedWhole_2 kM_X2_begin kI_X2_begin kV_X2_begin kL_X2_31 (ci := 2) rfl sh_179 rfl (by decide) (Nat.le_of_ble_eq_true rfl) rfl (m_X2_begin _ R mem (hR) (hRn)) ?_
  rintro _ m_2 ⟨rfl, r_3⟩
  obtain ⟨b1, b2, b3, b4, b5, b6, b7⟩ := id r_3
  obtain ⟨mB, hmB⟩ : ∃ x, x = m_2 := ⟨_, rfl⟩
  rw [← hmB] at b1 b2 b3 b4 b5 b6 b7
  have hRSb : RS mB 21 f := hRS.congr (fun c c1 c2 => b1 c (by omega) (by omega) (by omega) (by omega))
  have hCb : CI mB := hCI.congr (fun c c1 c2 c3 c4 => b1 c (by omega) (by omega) (by omega) (by omega))
  have e1 : mB 21 1 = f 1 := hRSb.2.1
  have ens : nsaD (mB 29) (mB 21 1) d = dayC f d := by rw [e1]; exact hRSb.nsa hG hd
  obtain ⟨d1, d2, d3, d4⟩ := day_iff hG hd.1
  have hL0 : LI 0 (cutL f (life0 (mem R) (fun _ => 0))) := LIn.start hG.1.2 hW
  have gb1 := hG.2.1
  have gb2 := hG.2.2.1
  have e29 : mB 21 1 = f 1 := hRSb.2.1
  refine ok_aload_n F dX2_isLivedWhole_5 2 rfl ?_
  refine ok_iload_n F dX2_isLivedWhole_6 3 rfl ?_
  refine ok_callv F [pI d] dX2_isLivedWhole_7 kM_X6_salesOf kI_X6_salesOf kV_X6_salesOf kL_X2_35 (ci := 6) rfl sh_21 rfl (by decide) (Nat.le_of_ble_eq_true rfl) rfl (m_X6_salesOf_21 _ d m_2 (by omega) (by rw [← hmB, e1]; exact hG.2.1)) ?_
  rintro _ _ ⟨rfl, rfl⟩
  refine ok_istore (lv' := [(4, pI (nsaD (m_2 29) (m_2 21 1) d)), (0, pR 179), (1, pR R), (2, pR 21), (3, pI d)]) F dX2_isLivedWhole_10 (by decide) rfl ?_
  refine ok_iconst F dX2_isLivedWhole_12 ?_
  refine ok_istore (lv' := [(5, pI 0), (4, pI (nsaD (m_2 29) (m_2 21 1) d)), (0, pR 179), (1, pR R), (2, pR 21), (3, pI d)]) F dX2_isLivedWhole_13 (by decide) rfl ?_
  have hL_15 : ∀ (n_15 : Nat) (i : Int) (m : Mem), (0 ≤ i ∧ i ≤ dayC f d ∧ (∀ c, c < 179 ∨ 206 < c → m c = mem c) ∧ CI m ∧ LRepC m (blkF f (dayA f d).toNat (life0 (mem R) (fun _ => 0)) i.toNat) ∧ ∀ j : Nat, j < 8 → m 182 j = (spF f (dayA f d).toNat (life0 (mem R) (fun _ => 0)) (mem R) i.toNat) j) → (dayC f d - i).toNat = n_15 → Ok shp X 6 15 [(0, pR 179), (1, pR R), (2, pR 21), (3, pI d), (4, pI (nsaD (m_2 29) (m_2 21 1) d)), (5, pI i)] [] m := by
    intro n_15
    induction n_15 using Nat.strongRecOn with
    | _ n_15 ih_15 =>
      intro i m hI_15 hn_15
      obtain ⟨hi0, hi1, hF, hC, hLR, hsp⟩ := hI_15
      have hRSm : RS m 21 f := hRS.congr (fun c c1 c2 => hF c (by omega))
      have efst : fstD (m 29) d = dayA f d := hRSm.fst hG (by omega)
      have hLI := blk_LIn hG (a := (dayA f d).toNat) hL0 i.toNat (by omega)
      refine ok_iload F dX2_isLivedWhole_15 5 rfl ?_
      refine ok_iload F dX2_isLivedWhole_17 4 rfl ?_
      refine ok_icmp_ge F 47 dX2_isLivedWhole_19 (by decide) (by omega) (by rw [← hmB, ens]; omega) (fun c_4 => ?_) (fun c_4 => ?_)
      · have h34 : m 179 3 = _ := hLR.2.2.1
        have hlb1 : 0 ≤ (blkF f (dayA f d).toNat (life0 (mem R) (fun _ => 0)) i.toNat).2.2.1 ∧ (blkF f (dayA f d).toNat (life0 (mem R) (fun _ => 0)) i.toNat).2.2.1 ≤ ((i.toNat : Nat) : Int) := hLI.1.1.2.2.1
        have h2c := hG.2.2.1
        have ens2 := ens
        rw [hmB] at ens2
        refine ok_aload_n F dX2_isLivedWhole_47 0 rfl ?_
        refine ok_getf (v := m 179 3) F dX2_isLivedWhole_48 kF_X2_48 sh_179 rfl rfl ?_
        refine ok_if_ne F 58 dX2_isLivedWhole_51 (by decide) (by omega) (fun c_5 => ?_) (fun c_5 => ?_)
        · refine ok_iconst F dX2_isLivedWhole_58 ?_
          refine ok_zret F G dX2_isLivedWhole_59 (by first | rfl | exact zb_nar) ?_
          have hsm := blk_sh (f := f) (a := (dayA f d).toNat) (L := (life0 (mem R) (fun _ => 0))) i.toNat (dayC f d).toNat (by omega)
          have h3 : m 179 3 = _ := hLR.2.2.1
          have hlb : 0 ≤ (blkF f (dayA f d).toNat (life0 (mem R) (fun _ => 0)) i.toNat).2.2.1 ∧ (blkF f (dayA f d).toNat (life0 (mem R) (fun _ => 0)) i.toNat).2.2.1 ≤ ((i.toNat : Nat) : Int) := hLI.1.1.2.2.1
          refine ⟨_, rfl, hF, hC, ?_⟩
          rw [day_life hG hd.1]
          first
            | (have ei : i = dayC f d := by omega
               subst ei
               first | (rw [if_pos (by omega)]; done) | (rw [if_neg (by omega)]; done))
            | (first | (rw [if_pos (by omega)]; done) | (rw [if_neg (by omega)]; done))
        · refine ok_iconst F dX2_isLivedWhole_54 ?_
          refine ok_goto F 59 dX2_isLivedWhole_55 (by decide) ?_
          refine ok_zret F G dX2_isLivedWhole_59 (by first | rfl | exact zb_nar) ?_
          have hsm := blk_sh (f := f) (a := (dayA f d).toNat) (L := (life0 (mem R) (fun _ => 0))) i.toNat (dayC f d).toNat (by omega)
          have h3 : m 179 3 = _ := hLR.2.2.1
          have hlb : 0 ≤ (blkF f (dayA f d).toNat (life0 (mem R) (fun _ => 0)) i.toNat).2.2.1 ∧ (blkF f (dayA f d).toNat (life0 (mem R) (fun _ => 0)) i.toNat).2.2.1 ≤ ((i.toNat : Nat) : Int) := hLI.1.1.2.2.1
          refine ⟨_, rfl, hF, hC, ?_⟩
          rw [day_life hG hd.1]
          first
            | (have ei : i = dayC f d := by omega
               subst ei
               first | (rw [if_pos (by omega)]; done) | (rw [if_neg (by omega)]; done))
            | (first | (rw [if_pos (by omega)]; done) | (rw [if_neg (by omega)]; done))
      · have ec := c_4
        rw [← hmB, ens] at ec
        have h33 : m 179 3 = _ := hLR.2.2.1
        have hlb0 : 0 ≤ (blkF f (dayA f d).toNat (life0 (mem R) (fun _ => 0)) i.toNat).2.2.1 ∧ (blkF f (dayA f d).toNat (life0 (mem R) (fun _ => 0)) i.toNat).2.2.1 ≤ ((i.toNat : Nat) : Int) := hLI.1.1.2.2.1
        have h2b := hG.2.2.1
        refine ok_aload_n F dX2_isLivedWhole_22 0 rfl ?_
        refine ok_getf (v := m 179 3) F dX2_isLivedWhole_23 kF_X2_48 sh_179 rfl rfl ?_
        refine ok_if_ne F 47 dX2_isLivedWhole_26 (by decide) (by omega) (fun c_6 => ?_) (fun c_6 => ?_)
        · have h34 : m 179 3 = _ := hLR.2.2.1
          have hlb1 : 0 ≤ (blkF f (dayA f d).toNat (life0 (mem R) (fun _ => 0)) i.toNat).2.2.1 ∧ (blkF f (dayA f d).toNat (life0 (mem R) (fun _ => 0)) i.toNat).2.2.1 ≤ ((i.toNat : Nat) : Int) := hLI.1.1.2.2.1
          have h2c := hG.2.2.1
          have ens2 := ens
          rw [hmB] at ens2
          refine ok_aload_n F dX2_isLivedWhole_47 0 rfl ?_
          refine ok_getf (v := m 179 3) F dX2_isLivedWhole_48 kF_X2_48 sh_179 rfl rfl ?_
          refine ok_if_ne F 58 dX2_isLivedWhole_51 (by decide) (by omega) (fun c_7 => ?_) (fun c_7 => ?_)
          · refine ok_iconst F dX2_isLivedWhole_58 ?_
            refine ok_zret F G dX2_isLivedWhole_59 (by first | rfl | exact zb_nar) ?_
            have hsm := blk_sh (f := f) (a := (dayA f d).toNat) (L := (life0 (mem R) (fun _ => 0))) i.toNat (dayC f d).toNat (by omega)
            have h3 : m 179 3 = _ := hLR.2.2.1
            have hlb : 0 ≤ (blkF f (dayA f d).toNat (life0 (mem R) (fun _ => 0)) i.toNat).2.2.1 ∧ (blkF f (dayA f d).toNat (life0 (mem R) (fun _ => 0)) i.toNat).2.2.1 ≤ ((i.toNat : Nat) : Int) := hLI.1.1.2.2.1
            refine ⟨_, rfl, hF, hC, ?_⟩
            rw [day_life hG hd.1]
            first
              | (have ei : i = dayC f d := by omega
                 subst ei
                 first | (rw [if_pos (by omega)]; done) | (rw [if_neg (by omega)]; done))
              | (first | (rw [if_pos (by omega)]; done) | (rw [if_neg (by omega)]; done))
          · refine ok_iconst F dX2_isLivedWhole_54 ?_
            refine ok_goto F 59 dX2_isLivedWhole_55 (by decide) ?_
            refine ok_zret F G dX2_isLivedWhole_59 (by first | rfl | exact zb_nar) ?_
            have hsm := blk_sh (f := f) (a := (dayA f d).toNat) (L := (life0 (mem R) (fun _ => 0))) i.toNat (dayC f d).toNat (by omega)
            have h3 : m 179 3 = _ := hLR.2.2.1
            have hlb : 0 ≤ (blkF f (dayA f d).toNat (life0 (mem R) (fun _ => 0)) i.toNat).2.2.1 ∧ (blkF f (dayA f d).toNat (life0 (mem R) (fun _ => 0)) i.toNat).2.2.1 ≤ ((i.toNat : Nat) : Int) := hLI.1.1.2.2.1
            refine ⟨_, rfl, hF, hC, ?_⟩
            rw [day_life hG hd.1]
            first
              | (have ei : i = dayC f d := by omega
                 subst ei
                 first | (rw [if_pos (by omega)]; done) | (rw [if_neg (by omega)]; done))
              | (first | (rw [if_pos (by omega)]; done) | (rw [if_neg (by omega)]; done))
        · refine ok_aload_n F dX2_isLivedWhole_29 0 rfl ?_
          refine ok_aload_n F dX2_isLivedWhole_30 2 rfl ?_
          refine ok_aload_n F dX2_isLivedWhole_31 2 rfl ?_
          refine ok_iload_n F dX2_isLivedWhole_32 3 rfl ?_
          refine ok_callv F [pI d] dX2_isLivedWhole_33 kM_X6_firstSale kI_X6_firstSale kV_X6_firstSale kL_X2_41 (ci := 6) rfl sh_21 rfl (by decide) (Nat.le_of_ble_eq_true rfl) rfl (m_X6_firstSale_21 _ d m (by omega)) ?_
          rintro _ _ ⟨rfl, rfl⟩
          refine ok_iload F dX2_isLivedWhole_36 5 rfl ?_
          refine ok_callv F [pR 21, pI (fstD (m 29) d), pI i] dX2_isLivedWhole_38 kM_X2_meetSale kI_X2_meetSale kV_X2_meetSale kL_X2_44 (ci := 2) rfl sh_179 rfl (by decide) (Nat.le_of_ble_eq_true rfl) rfl (m_X2_meetSale_n _ f (blkF f (dayA f d).toNat (life0 (mem R) (fun _ => 0)) i.toNat) i.toNat (fstD (m 29) d) i m (hC) (hRSm) (hG) (by rw [efst]; omega) (hLR) (hLI.1) (by have := hG.2.2.1; omega) (by rw [hLI.2]; show i = 0 + ((i.toNat : Nat) : Int); omega) (fun j hj => by rw [hsp j (by have := hG.1; omega)]; have q := spF_bdn (a := (dayA f d).toNat) hG hL0 (sp := mem R) hW i.toNat (by omega) j hj; have q2 := hW j hj; omega)) ?_
          rintro _ m_9 ⟨rfl, r_10⟩
          obtain ⟨n1, n2, n3, n4⟩ := id r_10
          rw [efst, show (dayA f d + i).toNat = (dayA f d).toNat + i.toNat by omega] at n3 n4
          refine ok_iinc (lv' := [(5, pI (i + 1)), (0, pR 179), (1, pR R), (2, pR 21), (3, pI d), (4, pI (nsaD (m_2 29) (m_2 21 1) d))]) F dX2_isLivedWhole_41 5 rfl (by decide) rfl ?_
          refine ok_goto F 15 dX2_isLivedWhole_44 (by decide) ?_
          refine ok_lvp [1, 2, 3, 4, 5, 0] (lv' := [(0, pR 179), (1, pR R), (2, pR 21), (3, pI d), (4, pI (nsaD (m_2 29) (m_2 21 1) d)), (5, pI (i + 1))]) rfl ?_
          refine ih_15 _ ?_ (i + 1) m_9 ?_ rfl
          · omega
          · have ei : (i + 1).toNat = i.toNat + 1 := by omega
            rw [ei]
            exact ⟨by omega, by omega, fun c hc => by rw [n1 c hc]; exact hF c hc, n2, n3, fun j hj => by rw [n4 j hj]; exact spS_congr (fun k hk => hsp k hk) hj⟩
  refine ok_lvp [2, 3, 4, 5, 1, 0] (lv' := [(0, pR 179), (1, pR R), (2, pR 21), (3, pI d), (4, pI (nsaD (m_2 29) (m_2 21 1) d)), (5, pI 0)]) rfl ?_
  refine hL_15 _ 0 m_2 ?_ rfl
  rw [← hmB]
  refine ⟨by omega, by omega, fun c hc => b1 c (by omega) (by omega) (by omega) (by omega), hCb, ?_, fun j hj => (b2 j hj).2.2⟩
  refine ⟨fun k hk => (b2 k hk).1, fun k hk => ?_, b3, b4, b5, b6, b7⟩
  rw [(b2 k hk).2.1]
  exact (if_pos hk).symm
