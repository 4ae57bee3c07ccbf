/-! the class: what can be reached, kind by kind -/
theorem few_ex {v c : Nat → Nat} {k a : Nat} (hv : ∀ i, i ≤ k → 1 ≤ v i) (ha : a ≤ 2500) : fewT v c (k + 1) a < 1000000 ↔ ∃ z : Nat, z ≤ c k ∧ z * v k ≤ a ∧ fewT v c k (a - z * v k) < 1000000 := by
  constructor
  · intro h
    obtain ⟨z, z1, z2, z3⟩ := fewT_at h
    exact ⟨z, z1, z2, by omega⟩
  · rintro ⟨z, z1, z2, z3⟩
    obtain ⟨r1, r2, r3⟩ := takR_rep z3
    have b1 : ∀ i, i < k → (fun i => if i = k then z else takR v c k (a - z * v k) i) i = takR v c k (a - z * v k) i := fun i hi => if_neg (by omega)
    have b2 : (fun i => if i = k then z else takR v c k (a - z * v k) i) k = z := if_pos rfl
    have q := fewT_least (v := v) (c := c) (n := k + 1) (a := a) (r := fun i => if i = k then z else takR v c k (a - z * v k) i) (fun i hi => by
      by_cases g : i = k
      · subst g; rw [if_pos rfl]; exact z1
      · rw [if_neg g]; exact r3 i (by omega)) (by
      show sumV _ v k + (fun i => if i = k then z else takR v c k (a - z * v k) i) k * v k = a
      rw [sumV_congr b1, b2, r1]; omega)
    have e : sumC (fun i => if i = k then z else takR v c k (a - z * v k) i) (k + 1) = sumC (takR v c k (a - z * v k)) k + z := by
      show sumC _ k + (fun i => if i = k then z else takR v c k (a - z * v k) i) k = _
      rw [sumC_congr b1, b2]
    have s := sumC_le (r := takR v c k (a - z * v k)) (v := v) (n := k) (fun i hi => hv i (by omega))
    have w : z ≤ z * v k := Nat.le_mul_of_pos_right z (hv k (Nat.le_refl _))
    rw [e] at q
    omega
theorem cover_step {S S2 : Nat → Bool} {G : Nat → Prop} {t p v : Nat} (hp : 1 ≤ p ∧ p ≤ t + 1) (hv : 1 ≤ v) (hS : ∀ a, a ≤ 2500 → (S a = true ↔ ∃ z, z ≤ t ∧ z * v ≤ a ∧ G (a - z * v)))
    (h2 : ∀ a, a ≤ 2500 → S2 a = (S a || (decide (1 ≤ p * v ∧ p * v ≤ 2500 ∧ p * v ≤ a) && S (a - p * v)))) : ∀ a, a ≤ 2500 → (S2 a = true ↔ ∃ z, z ≤ t + p ∧ z * v ≤ a ∧ G (a - z * v)) := by
  intro a ha
  have hpv : 1 ≤ p * v := Nat.mul_pos hp.1 hv
  rw [h2 a ha, Bool.or_eq_true, Bool.and_eq_true, decide_eq_true_eq, hS a ha]
  constructor
  · rintro (⟨z, z1, z2, z3⟩ | ⟨y, h⟩)
    · exact ⟨z, by omega, z2, z3⟩
    · obtain ⟨z, z1, z2, z3⟩ := (hS (a - p * v) (by omega)).mp h
      have e : (z + p) * v = z * v + p * v := Nat.add_mul z p v
      refine ⟨z + p, by omega, by omega, ?_⟩
      rw [show a - (z + p) * v = a - p * v - z * v by omega]
      exact z3
  · rintro ⟨z, z1, z2, z3⟩
    by_cases g : z ≤ t
    · exact Or.inl ⟨z, g, z2, z3⟩
    · have e : (z - p) * v + p * v = z * v := by
        rw [← Nat.add_mul, show z - p + p = z by omega]
      refine Or.inr ⟨by omega, (hS (a - p * v) (by omega)).mpr ⟨z - p, by omega, by omega, ?_⟩⟩
      rw [show a - p * v - (z - p) * v = a - z * v by omega]
      exact z3
theorem dX3_spread_0 : decode cX3_spread 0 = .ok (.iconst 1, 1) := by decide +kernel
theorem dX3_spread_1 : decode cX3_spread 1 = .ok (.istore_n 3, 1) := by decide +kernel
theorem dX3_spread_2 : decode cX3_spread 2 = .ok (.iload_n 3, 1) := by decide +kernel
theorem dX3_spread_3 : decode cX3_spread 3 = .ok (.bipush 40, 2) := by decide +kernel
theorem dX3_spread_5 : decode cX3_spread 5 = .ok (.if_icmp .ge 16, 3) := by decide +kernel
theorem dX3_spread_8 : decode cX3_spread 8 = .ok (.aload_n 0, 1) := by decide +kernel
theorem dX3_spread_9 : decode cX3_spread 9 = .ok (.getfield 11, 3) := by decide +kernel
theorem dX3_spread_12 : decode cX3_spread 12 = .ok (.iload_n 3, 1) := by decide +kernel
theorem dX3_spread_13 : decode cX3_spread 13 = .ok (.lconst 0, 1) := by decide +kernel
theorem dX3_spread_14 : decode cX3_spread 14 = .ok (.lastore, 1) := by decide +kernel
theorem dX3_spread_15 : decode cX3_spread 15 = .ok (.iinc 3 1, 3) := by decide +kernel
theorem dX3_spread_18 : decode cX3_spread 18 = .ok (.goto (-16), 3) := by decide +kernel
theorem dX3_spread_21 : decode cX3_spread 21 = .ok (.aload_n 0, 1) := by decide +kernel
theorem dX3_spread_22 : decode cX3_spread 22 = .ok (.getfield 11, 3) := by decide +kernel
theorem dX3_spread_25 : decode cX3_spread 25 = .ok (.iconst 0, 1) := by decide +kernel
theorem dX3_spread_26 : decode cX3_spread 26 = .ok (.lconst 1, 1) := by decide +kernel
theorem dX3_spread_27 : decode cX3_spread 27 = .ok (.lastore, 1) := by decide +kernel
theorem dX3_spread_28 : decode cX3_spread 28 = .ok (.iconst 0, 1) := by decide +kernel
theorem dX3_spread_29 : decode cX3_spread 29 = .ok (.istore_n 3, 1) := by decide +kernel
theorem dX3_spread_30 : decode cX3_spread 30 = .ok (.iload_n 3, 1) := by decide +kernel
theorem dX3_spread_31 : decode cX3_spread 31 = .ok (.aload_n 1, 1) := by decide +kernel
theorem dX3_spread_32 : decode cX3_spread 32 = .ok (.getfield 15, 3) := by decide +kernel
theorem dX3_spread_35 : decode cX3_spread 35 = .ok (.if_icmp .ge 67, 3) := by decide +kernel
theorem dX3_spread_38 : decode cX3_spread 38 = .ok (.aload_n 2, 1) := by decide +kernel
theorem dX3_spread_39 : decode cX3_spread 39 = .ok (.iload_n 3, 1) := by decide +kernel
theorem dX3_spread_40 : decode cX3_spread 40 = .ok (.iaload, 1) := by decide +kernel
theorem dX3_spread_41 : decode cX3_spread 41 = .ok (.istore 4, 2) := by decide +kernel
theorem dX3_spread_43 : decode cX3_spread 43 = .ok (.iconst 1, 1) := by decide +kernel
theorem dX3_spread_44 : decode cX3_spread 44 = .ok (.istore 5, 2) := by decide +kernel
theorem dX3_spread_46 : decode cX3_spread 46 = .ok (.iload 5, 2) := by decide +kernel
theorem dX3_spread_48 : decode cX3_spread 48 = .ok (.bipush 100, 2) := by decide +kernel
theorem dX3_spread_50 : decode cX3_spread 50 = .ok (.if_icmp .gt 46, 3) := by decide +kernel
theorem dX3_spread_53 : decode cX3_spread 53 = .ok (.iload 4, 2) := by decide +kernel
theorem dX3_spread_55 : decode cX3_spread 55 = .ok (.ifCond .le 41, 3) := by decide +kernel
theorem dX3_spread_58 : decode cX3_spread 58 = .ok (.iload 5, 2) := by decide +kernel
theorem dX3_spread_60 : decode cX3_spread 60 = .ok (.iload 4, 2) := by decide +kernel
theorem dX3_spread_62 : decode cX3_spread 62 = .ok (.invokestatic 21, 3) := by decide +kernel
theorem dX3_spread_65 : decode cX3_spread 65 = .ok (.istore 6, 2) := by decide +kernel
theorem dX3_spread_67 : decode cX3_spread 67 = .ok (.aload_n 0, 1) := by decide +kernel
theorem dX3_spread_68 : decode cX3_spread 68 = .ok (.iload 6, 2) := by decide +kernel
theorem dX3_spread_70 : decode cX3_spread 70 = .ok (.aload_n 1, 1) := by decide +kernel
theorem dX3_spread_71 : decode cX3_spread 71 = .ok (.getfield 27, 3) := by decide +kernel
theorem dX3_spread_74 : decode cX3_spread 74 = .ok (.iload_n 3, 1) := by decide +kernel
theorem dX3_spread_75 : decode cX3_spread 75 = .ok (.iaload, 1) := by decide +kernel
theorem dX3_spread_76 : decode cX3_spread 76 = .ok (.imul, 1) := by decide +kernel
theorem dX3_spread_77 : decode cX3_spread 77 = .ok (.invokevirtual 31, 3) := by decide +kernel
theorem dX3_spread_80 : decode cX3_spread 80 = .ok (.iload 4, 2) := by decide +kernel
theorem dX3_spread_82 : decode cX3_spread 82 = .ok (.iload 6, 2) := by decide +kernel
theorem dX3_spread_84 : decode cX3_spread 84 = .ok (.isub, 1) := by decide +kernel
theorem dX3_spread_85 : decode cX3_spread 85 = .ok (.istore 4, 2) := by decide +kernel
theorem dX3_spread_87 : decode cX3_spread 87 = .ok (.iload 5, 2) := by decide +kernel
theorem dX3_spread_89 : decode cX3_spread 89 = .ok (.iconst 2, 1) := by decide +kernel
theorem dX3_spread_90 : decode cX3_spread 90 = .ok (.imul, 1) := by decide +kernel
theorem dX3_spread_91 : decode cX3_spread 91 = .ok (.istore 5, 2) := by decide +kernel
theorem dX3_spread_93 : decode cX3_spread 93 = .ok (.goto (-47), 3) := by decide +kernel
theorem dX3_spread_96 : decode cX3_spread 96 = .ok (.iinc 3 1, 3) := by decide +kernel
theorem dX3_spread_99 : decode cX3_spread 99 = .ok (.goto (-69), 3) := by decide +kernel
theorem dX3_spread_102 : decode cX3_spread 102 = .ok (.return_, 1) := by decide +kernel
set_option maxHeartbeats 4000000 in
set_option maxRecDepth 100000 in
theorem m_X3_spread (l : Launch) (R : Nat) (mem : Mem) (hR : shp[R]? = some (.inr (.inl (0, 8)))) (hR8 : R ≠ 208) (hN : 0 ≤ mem 21 0 ∧ mem 21 0 ≤ 8) (hV : ∀ i : Nat, (i : Int) < mem 21 0 → 1 ≤ mem 22 i ∧ mem 22 i ≤ 500) (hC : ∀ i : Nat, i < 8 → 0 ≤ mem R i ∧ mem R i ≤ 99) : Ret shp l yX3_spread cX3_spread 7 none 1 [pR 207, pR 21, pR R] mem (fun rv mv => rv = none ∧ (∀ c, c ≠ 208 → mv c = mem c) ∧ ∀ a : Nat, a ≤ 2500 → (rS mv a = true ↔ fewT (fun i => (mem 22 i).toNat) (fun i => (mem R i).toNat) (mem 21 0).toNat a < 1000000)) := by
  refine ret_of (by decide +kernel) (Nat.le_of_ble_eq_true rfl) (fun X hX F G => ?_)
  show Ok shp X 7 0 [(0, pR 207), (1, pR 21), (2, pR R)] [] mem
  refine ok_iconst F dX3_spread_0 ?_
  refine ok_istore_n (lv' := [(3, pI 1), (0, pR 207), (1, pR 21), (2, pR R)]) F dX3_spread_1 (by decide) rfl ?_
  have hL_2 : ∀ (n_2 : Nat) (i : Int) (m : Mem), (1 ≤ i ∧ i ≤ 40 ∧ (∀ c, c ≠ 208 → m c = mem c) ∧ ∀ j : Nat, 1 ≤ j → (j : Int) < i → m 208 j = 0) → (40 - i).toNat = n_2 → Ok shp X 7 2 [(0, pR 207), (1, pR 21), (2, pR R), (3, pI i)] [] m := by
    intro n_2
    induction n_2 using Nat.strongRecOn with
    | _ n_2 ih_2 =>
      intro i m hI_2 hn_2
      obtain ⟨hi0, hi1, hF0, hz⟩ := hI_2
      have hz0 : 40 ≤ i → ∀ j : Nat, 1 ≤ j → j < 40 → m 208 j = 0 := fun h j h1 h2 => hz j h1 (by omega)
      refine ok_iload_n F dX3_spread_2 3 rfl ?_
      refine ok_bipush F dX3_spread_3 rfl ?_
      refine ok_icmp_ge F 21 dX3_spread_5 (by decide) (by omega) (by omega) (fun c_1 => ?_) (fun c_1 => ?_)
      · refine ok_aload_n F dX3_spread_21 0 rfl ?_
        refine ok_getr F dX3_spread_22 kF_X3_11 sh_207 rfl ?_
        refine ok_iconst F dX3_spread_25 ?_
        refine ok_lconst (z := 1) F dX3_spread_26 rfl ?_
        refine ok_last F dX3_spread_27 sh_208 (by first | decide | assumption) (by omega) (by omega) (fun m_2 e_3 => ?_)
        have e3x : m_2 = mset m 208 0 1 := e_3
        have e0 : ∀ a : Nat, a ≤ 2500 → (rS m_2 a = true ↔ fewT (fun i => (mem 22 i).toNat) (fun i => (mem R i).toNat) 0 a < 1000000) := fun a ha => by
          have ef : fewT (fun i => (mem 22 i).toNat) (fun i => (mem R i).toNat) 0 a = if a = 0 then 0 else 1000000 := rfl
          rw [ef]
          unfold rS
          by_cases y : a / 64 = 0
          · rw [y, e3x, mset_eq, wb_1, decide_eq_true_eq]
            by_cases z : a = 0
            · rw [if_pos z]; omega
            · rw [if_neg z]; omega
          · rw [e3x, mset_ne (fun q => y q.2), hz0 (by omega) _ (by omega) (by omega), wb_0, if_neg (by omega)]
            exact ⟨fun q => absurd q (by decide), fun q => by omega⟩
        have hf0 : ∀ c, c ≠ 208 → m_2 c = mem c := fun c hc => by rw [e_3, mset_nka hc]; exact hF0 c hc
        refine ok_iconst F dX3_spread_28 ?_
        refine ok_istore_n (lv' := [(3, pI 0), (0, pR 207), (1, pR 21), (2, pR R)]) F dX3_spread_29 (by decide) rfl ?_
        have hL_30 : ∀ (n_30 : Nat) (k : Int) (mk : Mem), (0 ≤ k ∧ k ≤ mem 21 0 ∧ (∀ c, c ≠ 208 → mk c = mem c) ∧ ∀ a : Nat, a ≤ 2500 → (rS mk a = true ↔ fewT (fun i => (mem 22 i).toNat) (fun i => (mem R i).toNat) k.toNat a < 1000000)) → (mem 21 0 - k).toNat = n_30 → Ok shp X 7 30 [(0, pR 207), (1, pR 21), (2, pR R), (3, pI k)] [] mk := by
          intro n_30
          induction n_30 using Nat.strongRecOn with
          | _ n_30 ih_30 =>
            intro k mk hI_30 hn_30
            obtain ⟨hk0, hk1, hFk, hSk⟩ := hI_30
            have hRk : mk R = mem R := hFk R hR8
            refine ok_iload_n F dX3_spread_30 3 rfl ?_
            refine ok_aload_n F dX3_spread_31 1 rfl ?_
            refine ok_getf (v := mem 21 0) F dX3_spread_32 kF_X3_15 sh_21 rfl (by rw [(hFk 21 (by decide))] <;> rfl) ?_
            refine ok_icmp_ge F 102 dX3_spread_35 (by decide) (by omega) (by omega) (fun c_4 => ?_) (fun c_4 => ?_)
            · refine ok_vret F G dX3_spread_102 ?_
              exact ⟨rfl, hFk, fun a ha => by rw [show (mem 21 0).toNat = k.toNat by omega]; exact hSk a ha⟩
            · refine ok_aload_n F dX3_spread_38 2 rfl ?_
              refine ok_iload_n F dX3_spread_39 3 rfl ?_
              refine ok_iald (v := mk R k.toNat) F dX3_spread_40 hR (by first | decide | assumption) (by omega) (by omega) rfl ?_
              have hRkk := congrFun hRk k.toNat
              have hck := hC k.toNat (by omega)
              have hvk := hV k.toNat (by omega)
              refine ok_istore (lv' := [(4, pI (mk R k.toNat)), (0, pR 207), (1, pR 21), (2, pR R), (3, pI k)]) F dX3_spread_41 (by decide) rfl ?_
              refine ok_iconst F dX3_spread_43 ?_
              refine ok_istore (lv' := [(5, pI 1), (4, pI (mk R k.toNat)), (0, pR 207), (1, pR 21), (2, pR R), (3, pI k)]) F dX3_spread_44 (by decide) rfl ?_
              have hL_46 : ∀ (n_46 : Nat) (left : Int) (some : Int) (m2 : Mem), ((0 ≤ left ∧ left ≤ mem R k.toNat) ∧ (0 < left → some = mem R k.toNat - left + 1) ∧ (1 ≤ some ∧ some ≤ 200) ∧ (∀ c, c ≠ 208 → m2 c = mem c) ∧ ∀ a : Nat, a ≤ 2500 → (rS m2 a = true ↔ ∃ z : Nat, z ≤ (mem R k.toNat - left).toNat ∧ z * (mem 22 k.toNat).toNat ≤ a ∧ fewT (fun i => (mem 22 i).toNat) (fun i => (mem R i).toNat) k.toNat (a - z * (mem 22 k.toNat).toNat) < 1000000)) → left.toNat = n_46 → Ok shp X 7 46 [(0, pR 207), (1, pR 21), (2, pR R), (3, pI k), (4, pI left), (5, pI some)] [] m2 := by
                intro n_46
                induction n_46 using Nat.strongRecOn with
                | _ n_46 ih_46 =>
                  intro left some m2 hI_46 hn_46
                  obtain ⟨hl, hs1, hs2, hF2, hS2⟩ := hI_46
                  refine ok_iload F dX3_spread_46 5 rfl ?_
                  refine ok_bipush F dX3_spread_48 rfl ?_
                  refine ok_icmp_gt F 96 dX3_spread_50 (by decide) (by omega) (by omega) (fun c_5 => ?_) (fun c_5 => ?_)
                  · refine ok_iinc (lv' := [(3, pI (k + 1)), (0, pR 207), (1, pR 21), (2, pR R), (4, pI left), (5, pI some)]) F dX3_spread_96 3 rfl (by decide) rfl ?_
                    refine ok_goto F 30 dX3_spread_99 (by decide) ?_
                    refine ok_lvp [1, 2, 3, 0] (lv' := [(0, pR 207), (1, pR 21), (2, pR R), (3, pI (k + 1))]) rfl ?_
                    refine ih_30 _ ?_ (k + 1) m2 ?_ rfl
                    · omega
                    · have el : left = 0 := by omega
                      refine ⟨by omega, by omega, hF2, fun a ha => ?_⟩
                      rw [show (k + 1).toNat = k.toNat + 1 by omega, few_ex (fun i hi => by show 1 ≤ (mem 22 i).toNat; have := hV i (by omega); omega) ha, hS2 a ha, el, show (mem R k.toNat - 0).toNat = (mem R k.toNat).toNat by omega]
                  · refine ok_iload F dX3_spread_53 4 rfl ?_
                    refine ok_if_le F 96 dX3_spread_55 (by decide) (by omega) (fun c_6 => ?_) (fun c_6 => ?_)
                    · refine ok_iinc (lv' := [(3, pI (k + 1)), (0, pR 207), (1, pR 21), (2, pR R), (4, pI left), (5, pI some)]) F dX3_spread_96 3 rfl (by decide) rfl ?_
                      refine ok_goto F 30 dX3_spread_99 (by decide) ?_
                      refine ok_lvp [1, 2, 3, 0] (lv' := [(0, pR 207), (1, pR 21), (2, pR R), (3, pI (k + 1))]) rfl ?_
                      refine ih_30 _ ?_ (k + 1) m2 ?_ rfl
                      · omega
                      · have el : left = 0 := by omega
                        refine ⟨by omega, by omega, hF2, fun a ha => ?_⟩
                        rw [show (k + 1).toNat = k.toNat + 1 by omega, few_ex (fun i hi => by show 1 ≤ (mem 22 i).toNat; have := hV i (by omega); omega) ha, hS2 a ha, el, show (mem R k.toNat - 0).toNat = (mem R k.toNat).toNat by omega]
                    · refine ok_iload F dX3_spread_58 5 rfl ?_
                      refine ok_iload F dX3_spread_60 4 rfl ?_
                      refine ok_mmin F dX3_spread_62 kL_X3_21 kS_J9_min_7cf53 kM_J9_min_7cf53.2.1 kM_J9_min_7cf53.2.2.1 (by omega) (by omega) (by decide) (Nat.le_of_ble_eq_true rfl) ?_
                      refine ok_istore (lv' := [(6, pI (min some left)), (0, pR 207), (1, pR 21), (2, pR R), (3, pI k), (4, pI left), (5, pI some)]) F dX3_spread_65 (by decide) rfl ?_
                      obtain ⟨P, hP⟩ : ∃ x, x = min some left := ⟨_, rfl⟩
                      have hPb : 1 ≤ P ∧ P ≤ 99 := by omega
                      have hmb : 0 ≤ (min some left) * mem 22 k.toNat ∧ (min some left) * mem 22 k.toNat ≤ 99 * 500 := by
                        rw [← hP]
                        exact ⟨Int.mul_nonneg (by omega) (by omega), Int.mul_le_mul hPb.2 hvk.2 (by omega) (by omega)⟩
                      refine ok_aload_n F dX3_spread_67 1 rfl ?_
                      refine ok_iload F dX3_spread_68 0 rfl ?_
                      refine ok_aload_n F dX3_spread_70 2 rfl ?_
                      refine ok_getr F dX3_spread_71 kF_X3_27 sh_21 rfl ?_
                      refine ok_iload_n F dX3_spread_74 4 rfl ?_
                      refine ok_iald (v := mem 22 k.toNat) F dX3_spread_75 sh_22 (by first | decide | assumption) (by omega) (by omega) (by rw [(hF2 22 (by decide))] <;> rfl) ?_
                      refine ok_imul F dX3_spread_76 ?_
                      refine ok_callv F [pI ((min some left) * (mem 22 k.toNat))] dX3_spread_77 kM_X3_addShifted kI_X3_addShifted kV_X3_addShifted kL_X3_31 (ci := 3) rfl sh_207 rfl (by decide) (Nat.le_of_ble_eq_true rfl) rfl (m_X3_addShifted _ ((min some left) * (mem 22 k.toNat)) m2 (⟨Int.le_trans (by decide) hmb.1, Int.lt_of_le_of_lt hmb.2 (by decide)⟩)) ?_
                      rintro _ m_8 ⟨rfl, r_9⟩
                      obtain ⟨n1, n2⟩ := id r_9
                      obtain ⟨mz, hmz⟩ : ∃ x, x = m_8 := ⟨_, rfl⟩
                      rw [← hmz] at n1 n2
                      refine ok_iload F dX3_spread_80 5 rfl ?_
                      refine ok_iload F dX3_spread_82 0 rfl ?_
                      refine ok_isub F dX3_spread_84 ?_
                      refine ok_istore (lv' := [(4, pI (left - (min some left))), (6, pI (min some left)), (0, pR 207), (1, pR 21), (2, pR R), (3, pI k), (5, pI some)]) F dX3_spread_85 (by decide) rfl ?_
                      refine ok_iload F dX3_spread_87 6 rfl ?_
                      refine ok_iconst F dX3_spread_89 ?_
                      refine ok_imul F dX3_spread_90 ?_
                      refine ok_istore (lv' := [(5, pI (some * 2)), (4, pI (left - (min some left))), (6, pI (min some left)), (0, pR 207), (1, pR 21), (2, pR R), (3, pI k)]) F dX3_spread_91 (by decide) rfl ?_
                      refine ok_goto F 46 dX3_spread_93 (by decide) ?_
                      refine ok_lvp [3, 4, 5, 6, 1, 0] (lv' := [(0, pR 207), (1, pR 21), (2, pR R), (3, pI k), (4, pI (left - (min some left))), (5, pI (some * 2))]) rfl ?_
                      refine ih_46 _ ?_ (left - (min some left)) (some * 2) m_8 ?_ rfl
                      · omega
                      · rw [← hP] at n2
                        rw [← hP]
                        refine ⟨by omega, fun _ => by omega, by omega, fun c hc => by rw [← hmz, n1 c hc]; exact hF2 c hc, ?_⟩
                        have hmv : (P * mem 22 k.toNat).toNat = P.toNat * (mem 22 k.toNat).toNat := Int.toNat_mul (by omega) (by omega)
                        have hmi : P * mem 22 k.toNat = ((P.toNat * (mem 22 k.toNat).toNat : Nat) : Int) := by rw [← hmv]; rw [← hP] at hmb; omega
                        rw [← hmz]
                        have q := cover_step (S := rS m2) (S2 := rS mz) (G := fun x => fewT (fun i => (mem 22 i).toNat) (fun i => (mem R i).toNat) k.toNat x < 1000000) (t := (mem R k.toNat - left).toNat) (p := P.toNat) (v := (mem 22 k.toNat).toNat) (by omega) (by omega) hS2 (fun a ha => by
                          rw [n2 a (by omega), hmv]
                          congr 2
                          by_cases y : 1 ≤ P.toNat * (mem 22 k.toNat).toNat ∧ P.toNat * (mem 22 k.toNat).toNat ≤ 2500 ∧ P.toNat * (mem 22 k.toNat).toNat ≤ a
                          · rw [decide_eq_true y]; exact decide_eq_true (by omega)
                          · rw [decide_eq_false y]; exact decide_eq_false (by omega))
                        rw [show (mem R k.toNat - (left - P)).toNat = (mem R k.toNat - left).toNat + P.toNat by omega]
                        exact q
              refine ok_lvp [2, 3, 4, 5, 1, 0] (lv' := [(0, pR 207), (1, pR 21), (2, pR R), (3, pI k), (4, pI (mk R k.toNat)), (5, pI 1)]) rfl ?_
              refine hL_46 _ (mk R k.toNat) 1 mk ?_ rfl
              rw [hRk]
              refine ⟨by omega, fun _ => by omega, by omega, hFk, fun a ha => ?_⟩
              rw [hSk a ha, show (mem R k.toNat - mem R k.toNat).toNat = 0 by omega]
              constructor
              · intro h; exact ⟨0, Nat.le_refl _, by omega, by rw [Nat.zero_mul, Nat.sub_zero]; exact h⟩
              · rintro ⟨z, z1, z2, z3⟩
                have z0 : z = 0 := by omega
                rw [z0, Nat.zero_mul, Nat.sub_zero] at z3; exact z3
        refine ok_lvp [1, 2, 3, 0] (lv' := [(0, pR 207), (1, pR 21), (2, pR R), (3, pI 0)]) rfl ?_
        refine hL_30 _ 0 m_2 ?_ rfl
        exact ⟨by omega, by omega, hf0, e0⟩
      · refine ok_aload_n F dX3_spread_8 0 rfl ?_
        refine ok_getr F dX3_spread_9 kF_X3_11 sh_207 rfl ?_
        refine ok_iload_n F dX3_spread_12 3 rfl ?_
        refine ok_lconst (z := 0) F dX3_spread_13 rfl ?_
        refine ok_last F dX3_spread_14 sh_208 (by first | decide | assumption) (by omega) (by omega) (fun m_10 e_11 => ?_)
        refine ok_iinc (lv' := [(3, pI (i + 1)), (0, pR 207), (1, pR 21), (2, pR R)]) F dX3_spread_15 3 rfl (by decide) rfl ?_
        refine ok_goto F 2 dX3_spread_18 (by decide) ?_
        refine ok_lvp [1, 2, 3, 0] (lv' := [(0, pR 207), (1, pR 21), (2, pR R), (3, pI (i + 1))]) rfl ?_
        refine ih_2 _ ?_ (i + 1) m_10 ?_ rfl
        · omega
        · refine ⟨by omega, by omega, fun c hc => by rw [e_11, mset_nka hc]; exact hF0 c hc, fun j h1 h2 => ?_⟩
          rw [e_11]
          by_cases y : j = i.toNat
          · rw [y, mset_eq]
          · rw [mset_ne (fun q => y q.2)]; exact hz j h1 (by omega)
  refine ok_lvp [1, 2, 3, 0] (lv' := [(0, pR 207), (1, pR 21), (2, pR R), (3, pI 1)]) rfl ?_
  refine hL_2 _ 1 mem ?_ rfl
  exact ⟨by omega, by omega, fun _ _ => rfl, fun j h1 h2 => by omega⟩
