/-! the class: the change for an amount, from a stock -/
/-- what is there behind a change that was asked for -/
def TookC (mem mv : Mem) (R : Nat) (a z : Int) : Prop := (∀ c, c < 183 ∨ c = 184 ∨ 206 < c → mv c = mem c) ∧ CI mv ∧ (fewT (fun i => (mem 22 i).toNat) (fun i => (mem R i).toNat) (mem 21 0).toNat a.toNat = 1000000 ∧ z = -1 ∨ fewT (fun i => (mem 22 i).toNat) (fun i => (mem R i).toNat) (mem 21 0).toNat a.toNat < 1000000 ∧ z = fewT (fun i => (mem 22 i).toNat) (fun i => (mem R i).toNat) (mem 21 0).toNat a.toNat ∧ ∀ j : Nat, j < 8 → mv 185 j = (takR (fun i => (mem 22 i).toNat) (fun i => (mem R i).toNat) (mem 21 0).toNat a.toNat j : Nat))
theorem takZ_congr2 {v v' c c' : Nat → Nat} {k a : Nat} (h : ∀ i, i < k + 1 → v i = v' i ∧ c i = c' i) : takZ v c k a = takZ v' c' k a := by
  unfold takZ
  rw [(h k (Nat.lt_succ_self k)).2, (h k (Nat.lt_succ_self k)).1, fewT_congr2 (k := k + 1) a h]
  congr 1
  funext z
  rw [fewT_congr2 (k := k) _ (fun i hi => h i (Nat.lt_succ_of_lt hi))]
theorem takR_congr2 {v v' c c' : Nat → Nat} : ∀ {n : Nat} (a k : Nat), (∀ i, i < n → v i = v' i ∧ c i = c' i) → takR v c n a k = takR v' c' n a k
  | 0, _, _, _ => rfl
  | n + 1, a, k, h => by
    show (if k = n then takZ v c n a else takR v c n (a - takZ v c n a * v n) k) = (if k = n then takZ v' c' n a else takR v' c' n (a - takZ v' c' n a * v' n) k)
    rw [takZ_congr2 h, (h n (Nat.lt_succ_self n)).1, takR_congr2 _ k (fun i hi => h i (Nat.lt_succ_of_lt hi))]
theorem plR_ge {pk pp : Nat → Int} {v : Nat → Nat} {n top : Nat} (hv : ∀ i, i < n → 1 ≤ v i) (h : PLN pk pp v n top) : ∀ {f a j : Nat}, n ≤ j → a ≤ top → a ≤ f → 0 ≤ pk a → plR pk v f a j = 0
  | f, 0, j, _, _, _, _ => plR_0 pk v f j
  | 0, a + 1, _, _, _, h2, _ => by omega
  | f + 1, a + 1, j, hj, h1, h2, h3 => by
    rcases h.2.2 (a + 1) (by omega) h1 with ⟨p1, p2⟩ | ⟨K, k1, k2, k3, k4, k5, k6⟩
    · omega
    · have vK := hv K k1
      rw [plR_s (by omega) k2]
      show (if K = j then 1 else 0) + plR pk v f (a + 1 - v K) j = 0
      rw [if_neg (by omega), plR_ge hv h hj (by omega) (by omega) k4]
theorem dX0_take_0 : decode cX0_take 0 = .ok (.iload_n 3, 1) := by decide +kernel
theorem dX0_take_1 : decode cX0_take 1 = .ok (.ifCond .lt 19, 3) := by decide +kernel
theorem dX0_take_4 : decode cX0_take 4 = .ok (.iload_n 3, 1) := by decide +kernel
theorem dX0_take_5 : decode cX0_take 5 = .ok (.sipush 2500, 3) := by decide +kernel
theorem dX0_take_8 : decode cX0_take 8 = .ok (.if_icmp .gt 12, 3) := by decide +kernel
theorem dX0_take_11 : decode cX0_take 11 = .ok (.aload_n 1, 1) := by decide +kernel
theorem dX0_take_12 : decode cX0_take 12 = .ok (.aload_n 2, 1) := by decide +kernel
theorem dX0_take_13 : decode cX0_take 13 = .ok (.invokevirtual 31, 3) := by decide +kernel
theorem dX0_take_16 : decode cX0_take 16 = .ok (.iload_n 3, 1) := by decide +kernel
theorem dX0_take_17 : decode cX0_take 17 = .ok (.if_icmp .ge 5, 3) := by decide +kernel
theorem dX0_take_20 : decode cX0_take 20 = .ok (.iconst (-1), 1) := by decide +kernel
theorem dX0_take_21 : decode cX0_take 21 = .ok (.ireturn, 1) := by decide +kernel
theorem dX0_take_22 : decode cX0_take 22 = .ok (.aload_n 0, 1) := by decide +kernel
theorem dX0_take_23 : decode cX0_take 23 = .ok (.aload_n 1, 1) := by decide +kernel
theorem dX0_take_24 : decode cX0_take 24 = .ok (.iload_n 3, 1) := by decide +kernel
theorem dX0_take_25 : decode cX0_take 25 = .ok (.invokevirtual 37, 3) := by decide +kernel
theorem dX0_take_28 : decode cX0_take 28 = .ok (.aload_n 0, 1) := by decide +kernel
theorem dX0_take_29 : decode cX0_take 29 = .ok (.getfield 28, 3) := by decide +kernel
theorem dX0_take_32 : decode cX0_take 32 = .ok (.iload_n 3, 1) := by decide +kernel
theorem dX0_take_33 : decode cX0_take 33 = .ok (.iaload, 1) := by decide +kernel
theorem dX0_take_34 : decode cX0_take 34 = .ok (.ifCond .ge 5, 3) := by decide +kernel
theorem dX0_take_37 : decode cX0_take 37 = .ok (.iconst (-1), 1) := by decide +kernel
theorem dX0_take_38 : decode cX0_take 38 = .ok (.ireturn, 1) := by decide +kernel
theorem dX0_take_39 : decode cX0_take 39 = .ok (.aload_n 0, 1) := by decide +kernel
theorem dX0_take_40 : decode cX0_take 40 = .ok (.aload_n 1, 1) := by decide +kernel
theorem dX0_take_41 : decode cX0_take 41 = .ok (.aload_n 2, 1) := by decide +kernel
theorem dX0_take_42 : decode cX0_take 42 = .ok (.iload_n 3, 1) := by decide +kernel
theorem dX0_take_43 : decode cX0_take 43 = .ok (.invokevirtual 41, 3) := by decide +kernel
theorem dX0_take_46 : decode cX0_take 46 = .ok (.ifCond .eq 10, 3) := by decide +kernel
theorem dX0_take_49 : decode cX0_take 49 = .ok (.aload_n 0, 1) := by decide +kernel
theorem dX0_take_50 : decode cX0_take 50 = .ok (.getfield 25, 3) := by decide +kernel
theorem dX0_take_53 : decode cX0_take 53 = .ok (.iload_n 3, 1) := by decide +kernel
theorem dX0_take_54 : decode cX0_take 54 = .ok (.iaload, 1) := by decide +kernel
theorem dX0_take_55 : decode cX0_take 55 = .ok (.ireturn, 1) := by decide +kernel
theorem dX0_take_56 : decode cX0_take 56 = .ok (.aload_n 0, 1) := by decide +kernel
theorem dX0_take_57 : decode cX0_take 57 = .ok (.getfield 18, 3) := by decide +kernel
theorem dX0_take_60 : decode cX0_take 60 = .ok (.aload_n 1, 1) := by decide +kernel
theorem dX0_take_61 : decode cX0_take 61 = .ok (.aload_n 2, 1) := by decide +kernel
theorem dX0_take_62 : decode cX0_take 62 = .ok (.aload_n 1, 1) := by decide +kernel
theorem dX0_take_63 : decode cX0_take 63 = .ok (.getfield 45, 3) := by decide +kernel
theorem dX0_take_66 : decode cX0_take 66 = .ok (.iload_n 3, 1) := by decide +kernel
theorem dX0_take_67 : decode cX0_take 67 = .ok (.invokevirtual 49, 3) := by decide +kernel
theorem dX0_take_70 : decode cX0_take 70 = .ok (.aload_n 0, 1) := by decide +kernel
theorem dX0_take_71 : decode cX0_take 71 = .ok (.getfield 18, 3) := by decide +kernel
theorem dX0_take_74 : decode cX0_take 74 = .ok (.iload_n 3, 1) := by decide +kernel
theorem dX0_take_75 : decode cX0_take 75 = .ok (.aload_n 0, 1) := by decide +kernel
theorem dX0_take_76 : decode cX0_take 76 = .ok (.getfield 9, 3) := by decide +kernel
theorem dX0_take_79 : decode cX0_take 79 = .ok (.invokevirtual 53, 3) := by decide +kernel
theorem dX0_take_82 : decode cX0_take 82 = .ok (.ireturn, 1) := by decide +kernel
set_option maxHeartbeats 4000000 in
set_option maxRecDepth 100000 in
theorem m_X0_take (l : Launch) (R : Nat) (a : Int) (mem : Mem) (hCI : CI mem) (hN : 0 ≤ mem 21 0 ∧ mem 21 0 ≤ 8) (hV : ∀ i : Nat, i < 8 → 0 ≤ mem 22 i ∧ mem 22 i ≤ 500) (hV1 : ∀ i : Nat, (i : Int) < mem 21 0 → 1 ≤ mem 22 i) (ha : 0 ≤ a ∧ a ≤ 2500) (hR : shp[R]? = some (.inr (.inl (0, 8)))) (hRn : R < 183 ∨ R = 184 ∨ 206 < R) (hC : ∀ i : Nat, (i : Int) < mem 21 0 → 0 ≤ mem R i ∧ mem R i ≤ 200) : Ret shp l yX0_take cX0_take 4 (some .int) 3 [pR 183, pR 21, pR R, pI a] mem (fun rv mv => ∃ z, rv = some (pI z) ∧ TookC mem mv R a z) := by
  refine ret_of (by decide +kernel) (Nat.le_of_ble_eq_true rfl) (fun X hX F G => ?_)
  show Ok shp X 4 0 [(0, pR 183), (1, pR 21), (2, pR R), (3, pI a)] [] mem
  have hw1 : ∀ i, i < (mem 21 0).toNat → 1 ≤ (fun i => (mem 22 i).toNat) i := fun i hi => by have := hV1 i (by omega); show 1 ≤ (mem 22 i).toNat; omega
  have hsv : ((sumV (fun i => (mem R i).toNat) (fun i => (mem 22 i).toNat) (mem 21 0).toNat : Nat) : Int) = sumN (fun k => mem R k * mem 22 k) (mem 21 0).toNat := sumV_int (fun i hi => ⟨(hC i (by omega)).1, (hV i (by omega)).1⟩)
  have hsb := sumN_bd (f := fun k => mem R k * mem 22 k) (B := 100000) (n := (mem 21 0).toNat) (fun i hi => by have q := mul_bd (hC i (by omega)) (hV i (by omega)); exact ⟨q.1, by omega⟩)
  refine ok_iload_n F dX0_take_0 3 rfl ?_
  refine ok_if_lt F 20 dX0_take_1 (by decide) (by omega) (fun c_1 => ?_) (fun c_1 => ?_)
  · exfalso; omega
  · refine ok_iload_n F dX0_take_4 3 rfl ?_
    refine ok_sipush F dX0_take_5 rfl ?_
    refine ok_icmp_gt F 20 dX0_take_8 (by decide) (by omega) (by omega) (fun c_2 => ?_) (fun c_2 => ?_)
    · exfalso; omega
    · refine ok_aload_n F dX0_take_11 1 rfl ?_
      refine ok_aload_n F dX0_take_12 2 rfl ?_
      refine ok_callv F [pR R] dX0_take_13 kM_X6_worthOf kI_X6_worthOf kV_X6_worthOf kL_X0_31 (ci := 6) rfl sh_21 rfl (by decide) (Nat.le_of_ble_eq_true rfl) rfl (m_X6_worthOf _ R mem (hR) (by omega)) ?_
      rintro _ _ ⟨rfl, rfl⟩
      refine ok_iload_n F dX0_take_16 3 rfl ?_
      refine ok_icmp_ge F 22 dX0_take_17 (by decide) (by omega) (by omega) (fun c_3 => ?_) (fun c_3 => ?_)
      · refine ok_aload_n F dX0_take_22 0 rfl ?_
        refine ok_aload_n F dX0_take_23 1 rfl ?_
        refine ok_iload_n F dX0_take_24 3 rfl ?_
        refine ok_callv F [pR 21, pI a] dX0_take_25 kM_X0_preparePlenty kI_X0_preparePlenty kV_X0_preparePlenty kL_X0_37 (ci := 0) rfl sh_183 rfl (by decide) (Nat.le_of_ble_eq_true rfl) rfl (m_X0_preparePlenty _ a mem (hCI.1) (by omega) (hV) (hV1) (by omega)) ?_
        rintro _ m_5 ⟨rfl, r_6⟩
        obtain ⟨g0, g1, g2, g3, g4⟩ := id r_6
        obtain ⟨mP, hmP⟩ : ∃ x, x = m_5 := ⟨_, rfl⟩
        rw [← hmP] at g0 g1 g2 g3 g4
        obtain ⟨s1, s2, s3, s4, s5, s6⟩ := id g1
        have hPL : PLN (mP 189) (mP 188) (fun i => (mem 22 i).toNat) (mem 21 0).toNat (mP 183 6).toNat := by rw [g2] at s6; exact s6.congr (fun _ _ => ⟨rfl, rfl⟩) (fun i hi => by rw [g4 i (by omega)])
        have b9 := s5 a.toNat (by omega)
        have e21 : mP 21 = mem 21 := g0 21 (by decide) (by decide) (by decide) (by decide)
        have e22 : mP 22 = mem 22 := g0 22 (by decide) (by decide) (by decide) (by decide)
        have eR : mP R = mem R := g0 R (by omega) (by omega) (by omega) (by omega)
        have hFI : FI mP := hCI.2.congr (fun c c1 c2 c3 c4 c5 => g0 c (by omega) c3 c4 c5)
        refine ok_aload_n F dX0_take_28 0 rfl ?_
        refine ok_getr F dX0_take_29 kF_X0_28 sh_183 rfl ?_
        refine ok_iload_n F dX0_take_32 3 rfl ?_
        refine ok_iald (v := m_5 189 a.toNat) F dX0_take_33 sh_189 (by first | decide | assumption) (by omega) (by omega) rfl ?_
        refine ok_if_ge F 39 dX0_take_34 (by decide) (by rw [← hmP]; omega) (fun c_7 => ?_) (fun c_7 => ?_)
        · have cK := c_7
          rw [← hmP] at cK
          refine ok_aload_n F dX0_take_39 0 rfl ?_
          refine ok_aload_n F dX0_take_40 1 rfl ?_
          refine ok_aload_n F dX0_take_41 2 rfl ?_
          refine ok_iload_n F dX0_take_42 3 rfl ?_
          refine ok_callv F [pR 21, pR R, pI a] dX0_take_43 kM_X0_takeAsFromPlenty kI_X0_takeAsFromPlenty kV_X0_takeAsFromPlenty kL_X0_41 (ci := 0) rfl sh_183 rfl (by decide) (Nat.le_of_ble_eq_true rfl) rfl (m_X0_takeAsFromPlenty _ R a m_5 (by rw [← hmP]; exact g1) (by rw [← hmP, e21]; exact hN) (by rw [← hmP, e22]; exact hV) (by rw [← hmP, e21, e22]; exact hV1) (by omega) (by rw [← hmP, e21]; exact g2) (by rw [← hmP]; exact g3) (by rw [← hmP, e21, e22]; exact g4) (by rw [← hmP]; omega) (hR) (by omega) (by rw [← hmP, e21, eR]; exact hC)) ?_
          rintro _ m_9 ⟨z_8, rfl, r_10⟩
          obtain ⟨t1, t2⟩ := id r_10
          rw [← hmP] at t1 t2
          rw [e21, e22, eR] at t2
          obtain ⟨mT, hmT⟩ : ∃ x, x = m_9 := ⟨_, rfl⟩
          rw [← hmT] at t1 t2
          have f21 : mT 21 = mem 21 := by rw [t1 21 (by decide), e21]
          have f22 : mT 22 = mem 22 := by rw [t1 22 (by decide), e22]
          have fR : mT R = mem R := by rw [t1 R (by omega), eR]
          refine ok_if_eq F 56 dX0_take_46 (by decide) (by omega) (fun c_11 => ?_) (fun c_11 => ?_)
          · refine ok_aload_n F dX0_take_56 0 rfl ?_
            refine ok_getr F dX0_take_57 kF_X0_18 sh_183 rfl ?_
            refine ok_aload_n F dX0_take_60 1 rfl ?_
            refine ok_aload_n F dX0_take_61 2 rfl ?_
            refine ok_aload_n F dX0_take_62 1 rfl ?_
            refine ok_getf (v := mem 21 0) F dX0_take_63 kF_X0_45 sh_21 rfl (by rw [(r_10.1 21 (by decide)), (r_6.1 21 (by decide) (by decide) (by decide) (by decide))] <;> rfl) ?_
            refine ok_iload_n F dX0_take_66 3 rfl ?_
            refine ok_callv F [pR 21, pR R, pI (mem 21 0), pI a] dX0_take_67 kM_X1_layChange kI_X1_layChange kV_X1_layChange kL_X0_49 (ci := 1) rfl sh_186 rfl (by decide) (Nat.le_of_ble_eq_true rfl) rfl (m_X1_layChange _ R (mem 21 0) a m_9 (by rw [← hmT]; exact hFI.congr (fun c c1 c2 c3 c4 c5 => t1 c (by omega))) (hN) (ha) (by rw [← hmT, f22]; exact hV) (by rw [← hmT, f22]; exact hV1) (hR) (by omega) (by rw [← hmT, fR]; exact hC)) ?_
            rintro _ m_13 ⟨rfl, r_14⟩
            rw [← hmT] at r_14
            obtain ⟨mL, hmL⟩ : ∃ x, x = m_13 := ⟨_, rfl⟩
            rw [← hmL] at r_14
            have hLfi := LaidC.fi r_14 (by rw [f22]; exact hV)
            obtain ⟨u1, ⟨T, u2, u3⟩, u4⟩ := id r_14
            rw [f22, fR] at u4
            have uT := u3.2.2.2.2.2.1
            have uf : tbC (mL 190) (mL 191) T (mem 21 0).toNat a = fewT (fun i => (mem 22 i).toNat) (fun i => (mem R i).toNat) (mem 21 0).toNat a.toNat := by
              rw [tbC_at (by omega)]
              exact fewT_congr2 _ (fun i hi => by have q := u4 i (by omega); rw [q.1, q.2.1, if_pos (by omega)]; exact ⟨rfl, rfl⟩)
            have ub := fewT_bd (fun i => (mem 22 i).toNat) (fun i => (mem R i).toNat) (mem 21 0).toNat a.toNat
            refine ok_aload_n F dX0_take_70 0 rfl ?_
            refine ok_getr F dX0_take_71 kF_X0_18 sh_183 rfl ?_
            refine ok_iload_n F dX0_take_74 3 rfl ?_
            refine ok_aload_n F dX0_take_75 0 rfl ?_
            refine ok_getr F dX0_take_76 kF_X0_9 sh_183 rfl ?_
            refine ok_callv F [pI a, pR 185] dX0_take_79 kM_X1_read kI_X1_read kV_X1_read kL_X0_53 (ci := 1) rfl sh_186 rfl (by decide) (Nat.le_of_ble_eq_true rfl) rfl (m_X1_read _ (tbC (mL 190) (mL 191) T) 0 T (mem 21 0) a 185 m_13 (by rw [← hmL]; exact u3) (by omega) (sh_185) (by decide)) ?_
            rintro _ m_16 ⟨z_15, rfl, r_17⟩
            refine ok_iret F G dX0_take_82 ?_
            obtain ⟨v1, v2, v3⟩ := id r_17
            rw [← hmL] at v1 v3
            rw [uf] at v2 v3
            refine ⟨_, rfl, fun c hc => by rw [v1 c (by omega), u1 c (by omega), t1 c (by omega)]; exact g0 c (by omega) (by omega) (by omega) (by omega), ⟨g1.congr (fun c c1 c2 c3 c4 c5 => by rw [v1 c c4, u1 c (by omega)]; exact t1 c c4), hLfi.congr (fun c c1 c2 c3 c4 c5 => v1 c (by omega))⟩, ?_⟩
            by_cases g : fewT (fun i => (mem 22 i).toNat) (fun i => (mem R i).toNat) (mem 21 0).toNat a.toNat < 1000000
            · refine Or.inr ⟨g, by rw [v2, if_pos g], fun j hj => ?_⟩
              rw [v3 g j hj]
              by_cases gj : (j : Int) < mem 21 0
              · rw [if_pos gj, ← uf, tbC_at (by omega), rdR_tak (T := T) (fun i hi => ⟨by rw [(u4 i (by omega)).1]; exact (hV i (by omega)).1, by rw [(u4 i (by omega)).2.1, if_pos (by omega)]; exact (hC i (by omega)).1, (u4 i (by omega)).2.2⟩) (by omega) (by rw [← tbC_at (T := T) (by omega), uf]; exact g) j (by omega)]
                congr 1
                exact takR_congr2 _ _ (fun i hi => by have q := u4 i (by omega); rw [q.1, q.2.1, if_pos (by omega)]; exact ⟨rfl, rfl⟩)
              · rw [if_neg gj, takR_ge _ _ _ _ _ (by omega)]; rfl
            · exact Or.inl ⟨by omega, by rw [v2, if_neg g]⟩
          · refine ok_aload_n F dX0_take_49 0 rfl ?_
            refine ok_getr F dX0_take_50 kF_X0_25 sh_183 rfl ?_
            refine ok_iload_n F dX0_take_53 3 rfl ?_
            refine ok_iald (v := m_5 188 a.toNat) F dX0_take_54 sh_188 (by first | decide | assumption) (by omega) (by omega) (by rw [(r_10.1 188 (by decide))] <;> rfl) ?_
            refine ok_iret F G dX0_take_55 ?_
            rcases t2 with t2 | ⟨-, t3, t4⟩
            · exfalso; omega
            obtain ⟨q1, q2, q3⟩ := hPL.take (c := (fun i => (mem R i).toNat)) hw1 (a := a.toNat) (f := 2500) (by omega) (by omega) (by omega) (by omega) t4
            rw [← hmT, ← hmP]
            refine ⟨_, rfl, fun c hc => by rw [t1 c (by omega)]; exact g0 c (by omega) (by omega) (by omega) (by omega), ⟨g1.congr (fun c c1 c2 c3 c4 c5 => t1 c c4), hFI.congr (fun c c1 c2 c3 c4 c5 => t1 c (by omega))⟩, Or.inr ⟨q2, q1.symm, fun j hj => ?_⟩⟩
            rw [t3 j hj]
            by_cases g : j < (mem 21 0).toNat
            · rw [q3 j g]
            · rw [takR_ge _ _ _ _ _ (by omega), plR_ge hw1 hPL (by omega) (by omega) (by omega) (by omega)]
        · refine ok_iconst F dX0_take_37 ?_
          refine ok_iret F G dX0_take_38 ?_
          have cK := c_7
          rw [← hmP] at cK
          have hp := hPL.none (c := (fun i => (mem R i).toNat)) hw1 (a := a.toNat) (by omega) (by omega)
          rw [← hmP]
          exact ⟨_, rfl, fun c hc => g0 c (by omega) (by omega) (by omega) (by omega), ⟨g1, hFI⟩, Or.inl ⟨hp, rfl⟩⟩
      · refine ok_iconst F dX0_take_20 ?_
        refine ok_iret F G dX0_take_21 ?_
        have hp := fewT_poor (v := (fun i => (mem 22 i).toNat)) (c := (fun i => (mem R i).toNat)) (n := (mem 21 0).toNat) (a := a.toNat) (by omega)
        exact ⟨_, rfl, fun _ _ => rfl, hCI, Or.inl ⟨hp, rfl⟩⟩
