/-! the class: share and mean -/
/-- how many pieces of change of the first n amounts together, and of how many of them there is change -/
def shrF (v c : Nat → Nat) (n : Nat) : Nat → Int × Int
  | 0 => (0, 0)
  | a + 1 => if fewT v c n a < 1000000 then ((shrF v c n a).1 + fewT v c n a, (shrF v c n a).2 + 1) else shrF v c n a
theorem shrF_s (v c : Nat → Nat) (n : Nat) {k : Int} (h : 0 ≤ k) : shrF v c n (k + 1).toNat = if fewT v c n k.toNat < 1000000 then ((shrF v c n k.toNat).1 + fewT v c n k.toNat, (shrF v c n k.toNat).2 + 1) else shrF v c n k.toNat := by
  rw [show (k + 1).toNat = k.toNat + 1 by omega]
  rfl
theorem few_99 {v c : Nat → Nat} : ∀ {n : Nat}, (∀ i, i < n → c i ≤ 99) → ∀ a : Nat, fewT v c n a < 1000000 → fewT v c n a ≤ 99 * (n : Int)
  | 0, _, a, h => by
    have e : fewT v c 0 a = if a = 0 then 0 else 1000000 := rfl
    rw [e] at h ⊢
    by_cases g : a = 0
    · rw [if_pos g]; omega
    · rw [if_neg g] at h; omega
  | n + 1, hc, a, h => by
    obtain ⟨z, h1, h2, h3⟩ := fewT_at h
    have := few_99 (v := v) (n := n) (fun i hi => hc i (by omega)) (a - z * v n) (by omega)
    have := hc n (by omega)
    omega
theorem shr_1 {v c : Nat → Nat} {n : Nat} : ∀ {a : Nat}, 1 ≤ a → 1 ≤ (shrF v c n a).2
  | 0, h => by omega
  | a + 1, _ => by
    have ih : 0 ≤ (shrF v c n a).2 ∧ (1 ≤ a → 1 ≤ (shrF v c n a).2) := by
      by_cases q : 1 ≤ a
      · have := shr_1 (v := v) (c := c) (n := n) q
        omega
      · obtain rfl : a = 0 := by omega
        exact ⟨by show (0 : Int) ≤ 0; omega, by omega⟩
    have e : shrF v c n (a + 1) = if fewT v c n a < 1000000 then ((shrF v c n a).1 + fewT v c n a, (shrF v c n a).2 + 1) else shrF v c n a := rfl
    rw [e]
    by_cases g : fewT v c n a < 1000000
    · rw [if_pos g]
      show 1 ≤ (shrF v c n a).2 + 1
      omega
    · rw [if_neg g]
      by_cases q : 1 ≤ a
      · exact ih.2 q
      · obtain rfl : a = 0 := by omega
        obtain ⟨z1, z2⟩ := sumV_0 (r := fun _ => 0) (v := v) (n := n) (fun _ _ => rfl)
        have h0 := fewT_least (v := v) (c := c) (n := n) (a := 0) (r := fun _ => 0) (fun _ _ => Nat.zero_le _) z1
        rw [z2] at h0
        exact absurd (show fewT v c n 0 < 1000000 by omega) g
theorem life_goods {m1 : Nat → Int} {d : Int} {L0 : LfS} : ∀ n : Nat, (lifeN m1 d L0 n).2.2.1 + (lifeN m1 d L0 n).2.2.2.2.1 = L0.2.2.1 + L0.2.2.2.2.1 + sumN (fun s => if sDay m1 s = d then (1 : Int) else 0) n
  | 0 => by show L0.2.2.1 + L0.2.2.2.2.1 = L0.2.2.1 + L0.2.2.2.2.1 + 0; omega
  | n + 1 => by
    have ih := life_goods (m1 := m1) (d := d) (L0 := L0) n
    have e : sumN (fun s => if sDay m1 s = d then (1 : Int) else 0) (n + 1) = sumN (fun s => if sDay m1 s = d then (1 : Int) else 0) n + (if sDay m1 n = d then 1 else 0) := rfl
    rw [e]
    unfold lifeN
    by_cases g : sDay m1 n = d
    · rw [if_pos g, if_pos g]
      have e1 : (lifeS m1 n (lifeN m1 d L0 n)).2.2.1 = (lifeN m1 d L0 n).2.2.1 + (if shortS m1 (lifeN m1 d L0 n).1 n = true then 1 else 0) := rfl
      have e2 : (lifeS m1 n (lifeN m1 d L0 n)).2.2.2.2.1 = (lifeN m1 d L0 n).2.2.2.2.1 + (if shortS m1 (lifeN m1 d L0 n).1 n = true then 0 else 1) := rfl
      rw [e1, e2]
      by_cases q : shortS m1 (lifeN m1 d L0 n).1 n = true
      · rw [if_pos q, if_pos q]; omega
      · rw [if_neg q, if_neg q]; omega
    · rw [if_neg g, if_neg g]; omega
theorem LF_goods {f w : Nat → Int} {d : Int} (hG : GR f) (hd : 0 ≤ d) : (LF f d w).2.2.1 + (LF f d w).2.2.2.2.1 = dayC f d := by
  rw [← day_cnt hG hd]
  have h := life_goods (m1 := f) (d := d) (L0 := life0 w fun _ => 0) (f 2).toNat
  have z : (life0 w fun _ => 0).2.2.1 + (life0 w fun _ => 0).2.2.2.2.1 = 0 := rfl
  rw [z, Int.zero_add] at h
  exact h
theorem dX7_share_0 : decode cX7_share 0 = .ok (.aload_n 0, 1) := by decide +kernel
theorem dX7_share_1 : decode cX7_share 1 = .ok (.getfield 53, 3) := by decide +kernel
theorem dX7_share_4 : decode cX7_share 4 = .ok (.aload_n 0, 1) := by decide +kernel
theorem dX7_share_5 : decode cX7_share 5 = .ok (.getfield 10, 3) := by decide +kernel
theorem dX7_share_8 : decode cX7_share 8 = .ok (.aload_n 0, 1) := by decide +kernel
theorem dX7_share_9 : decode cX7_share 9 = .ok (.getfield 10, 3) := by decide +kernel
theorem dX7_share_12 : decode cX7_share 12 = .ok (.getfield 133, 3) := by decide +kernel
theorem dX7_share_15 : decode cX7_share 15 = .ok (.aload_n 0, 1) := by decide +kernel
theorem dX7_share_16 : decode cX7_share 16 = .ok (.getfield 10, 3) := by decide +kernel
theorem dX7_share_19 : decode cX7_share 19 = .ok (.getfield 103, 3) := by decide +kernel
theorem dX7_share_22 : decode cX7_share 22 = .ok (.sipush 2500, 3) := by decide +kernel
theorem dX7_share_25 : decode cX7_share 25 = .ok (.invokevirtual 249, 3) := by decide +kernel
theorem dX7_share_28 : decode cX7_share 28 = .ok (.lconst 0, 1) := by decide +kernel
theorem dX7_share_29 : decode cX7_share 29 = .ok (.lstore_n 1, 1) := by decide +kernel
theorem dX7_share_30 : decode cX7_share 30 = .ok (.lconst 0, 1) := by decide +kernel
theorem dX7_share_31 : decode cX7_share 31 = .ok (.lstore_n 3, 1) := by decide +kernel
theorem dX7_share_32 : decode cX7_share 32 = .ok (.iconst 0, 1) := by decide +kernel
theorem dX7_share_33 : decode cX7_share 33 = .ok (.istore 5, 2) := by decide +kernel
theorem dX7_share_35 : decode cX7_share 35 = .ok (.iload 5, 2) := by decide +kernel
theorem dX7_share_37 : decode cX7_share 37 = .ok (.sipush 2500, 3) := by decide +kernel
theorem dX7_share_40 : decode cX7_share 40 = .ok (.if_icmp .gt 35, 3) := by decide +kernel
theorem dX7_share_43 : decode cX7_share 43 = .ok (.aload_n 0, 1) := by decide +kernel
theorem dX7_share_44 : decode cX7_share 44 = .ok (.getfield 53, 3) := by decide +kernel
theorem dX7_share_47 : decode cX7_share 47 = .ok (.iload 5, 2) := by decide +kernel
theorem dX7_share_49 : decode cX7_share 49 = .ok (.invokevirtual 274, 3) := by decide +kernel
theorem dX7_share_52 : decode cX7_share 52 = .ok (.istore 6, 2) := by decide +kernel
theorem dX7_share_54 : decode cX7_share 54 = .ok (.iload 6, 2) := by decide +kernel
theorem dX7_share_56 : decode cX7_share 56 = .ok (.ifCond .lt 13, 3) := by decide +kernel
theorem dX7_share_59 : decode cX7_share 59 = .ok (.lload_n 1, 1) := by decide +kernel
theorem dX7_share_60 : decode cX7_share 60 = .ok (.iload 6, 2) := by decide +kernel
theorem dX7_share_62 : decode cX7_share 62 = .ok (.i2l, 1) := by decide +kernel
theorem dX7_share_63 : decode cX7_share 63 = .ok (.ladd, 1) := by decide +kernel
theorem dX7_share_64 : decode cX7_share 64 = .ok (.lstore_n 1, 1) := by decide +kernel
theorem dX7_share_65 : decode cX7_share 65 = .ok (.lload_n 3, 1) := by decide +kernel
theorem dX7_share_66 : decode cX7_share 66 = .ok (.lconst 1, 1) := by decide +kernel
theorem dX7_share_67 : decode cX7_share 67 = .ok (.ladd, 1) := by decide +kernel
theorem dX7_share_68 : decode cX7_share 68 = .ok (.lstore_n 3, 1) := by decide +kernel
theorem dX7_share_69 : decode cX7_share 69 = .ok (.iinc 5 1, 3) := by decide +kernel
theorem dX7_share_72 : decode cX7_share 72 = .ok (.goto (-37), 3) := by decide +kernel
theorem dX7_share_75 : decode cX7_share 75 = .ok (.lload_n 1, 1) := by decide +kernel
theorem dX7_share_76 : decode cX7_share 76 = .ok (.lload_n 3, 1) := by decide +kernel
theorem dX7_share_77 : decode cX7_share 77 = .ok (.invokestatic 277, 3) := by decide +kernel
theorem dX7_share_80 : decode cX7_share 80 = .ok (.lreturn, 1) := by decide +kernel
set_option maxHeartbeats 4000000 in
set_option maxRecDepth 100000 in
theorem m_X7_share (l : Launch) (mem : Mem) (hCI : CI mem) (hN : 0 ≤ mem 21 0 ∧ mem 21 0 ≤ 8) (hV : ∀ i : Nat, i < 8 → 0 ≤ mem 22 i ∧ mem 22 i ≤ 500) (hV1 : ∀ i : Nat, (i : Int) < mem 21 0 → 1 ≤ mem 22 i) (hTl : ∀ k : Nat, k < 8 → 0 ≤ mem 23 k ∧ mem 23 k ≤ 99) : Ret shp l yX7_share cX7_share 7 (some .long) 4 [pR 20] mem (fun rv mv => ∃ z, rv = some (pL z) ∧ KeepC mem mv ∧ z = qotB (shrF (fun i => (mem 22 i).toNat) (fun i => (mem 23 i).toNat) (mem 21 0).toNat 2501).1 (shrF (fun i => (mem 22 i).toNat) (fun i => (mem 23 i).toNat) (mem 21 0).toNat 2501).2) := by
  refine ret_of (by decide +kernel) (Nat.le_of_ble_eq_true rfl) (fun X hX F G => ?_)
  show Ok shp X 7 0 [(0, pR 20)] [] mem
  refine ok_aload_n F dX7_share_0 0 rfl ?_
  refine ok_getr F dX7_share_1 kF_X7_53 sh_20 rfl ?_
  refine ok_aload_n F dX7_share_4 0 rfl ?_
  refine ok_getr F dX7_share_5 kF_X7_10 sh_20 rfl ?_
  refine ok_aload_n F dX7_share_8 0 rfl ?_
  refine ok_getr F dX7_share_9 kF_X7_10 sh_20 rfl ?_
  refine ok_getr F dX7_share_12 kF_X7_133 sh_21 rfl ?_
  refine ok_aload_n F dX7_share_15 0 rfl ?_
  refine ok_getr F dX7_share_16 kF_X7_10 sh_20 rfl ?_
  refine ok_getf (v := mem 21 0) F dX7_share_19 kF_X7_103 sh_21 rfl rfl ?_
  refine ok_sipush F dX7_share_22 rfl ?_
  refine ok_callv F [pR 21, pR 23, pI (mem 21 0), pI 2500] dX7_share_25 kM_X1_layChange kI_X1_layChange kV_X1_layChange kL_X7_249 (ci := 1) rfl sh_186 rfl (by decide) (Nat.le_of_ble_eq_true rfl) rfl (m_X1_layChange _ 23 (mem 21 0) 2500 mem (hCI.2) (by omega) (by omega) (hV) (fun i hi => hV1 i (by omega)) (sh_23) (by decide) (fun i hi => by have := hTl i (by omega); omega)) ?_
  rintro _ m_2 ⟨rfl, r_3⟩
  have hkp := LaidC.keep hCI r_3 hV
  obtain ⟨u1, ⟨T, u2, u3⟩, u4⟩ := id r_3
  have uT := u3.2.2.2.2.2.1
  refine ok_lconst (z := 0) F dX7_share_28 rfl ?_
  refine ok_lstore_n (lv' := [(1, pL 0), (0, pR 20)]) F dX7_share_29 (by decide) rfl ?_
  refine ok_lconst (z := 0) F dX7_share_30 rfl ?_
  refine ok_lstore_n (lv' := [(3, pL 0), (1, pL 0), (0, pR 20)]) F dX7_share_31 (by decide) rfl ?_
  refine ok_iconst F dX7_share_32 ?_
  refine ok_istore (lv' := [(5, pI 0), (3, pL 0), (1, pL 0), (0, pR 20)]) F dX7_share_33 (by decide) rfl ?_
  have hL_35 : ∀ (n_35 : Nat) (p : Int) (c : Int) (a : Int), (0 ≤ a ∧ a ≤ 2501 ∧ p = (shrF (fun i => (mem 22 i).toNat) (fun i => (mem 23 i).toNat) (mem 21 0).toNat a.toNat).1 ∧ c = (shrF (fun i => (mem 22 i).toNat) (fun i => (mem 23 i).toNat) (mem 21 0).toNat a.toNat).2 ∧ 0 ≤ p ∧ p ≤ 800 * a ∧ 0 ≤ c ∧ c ≤ a) → (2501 - a).toNat = n_35 → Ok shp X 7 35 [(0, pR 20), (1, pL p), (3, pL c), (5, pI a)] [] m_2 := by
    intro n_35
    induction n_35 using Nat.strongRecOn with
    | _ n_35 ih_35 =>
      intro p c a hI_35 hn_35
      refine ok_iload F dX7_share_35 3 rfl ?_
      refine ok_sipush F dX7_share_37 rfl ?_
      refine ok_icmp_gt F 75 dX7_share_40 (by decide) (by omega) (by omega) (fun c_4 => ?_) (fun c_4 => ?_)
      · refine ok_lload_n F dX7_share_75 1 rfl ?_
        refine ok_lload_n F dX7_share_76 2 rfl ?_
        refine ok_calls F [pL p, pL c] dX7_share_77 kM_X7_bitsOfQuotient kS_X7_bitsOfQuotient kL_X7_277 rfl (by decide) (Nat.le_of_ble_eq_true rfl) rfl (m_X7_bitsOfQuotient _ p c m_2 (by omega) (by omega)) ?_
        rintro _ _ ⟨rfl, rfl⟩
        refine ok_lret F G dX7_share_80 ?_
        have ea : a.toNat = 2501 := by omega
        rw [ea] at hI_35
        refine ⟨_, rfl, hkp, ?_⟩
        rw [hI_35.2.2.1, hI_35.2.2.2.1]
      · have e := LaidC.val (T := T) u4 hN (a := a) (by omega)
        have hb := fewT_bd (fun i => (mem 22 i).toNat) (fun i => (mem 23 i).toNat) (mem 21 0).toNat a.toNat
        have h9 := few_99 (v := (fun i => (mem 22 i).toNat)) (c := (fun i => (mem 23 i).toNat)) (n := (mem 21 0).toNat) (fun i hi => by show (mem 23 i).toNat ≤ 99; have := hTl i (by omega); omega) a.toNat
        refine ok_aload_n F dX7_share_43 0 rfl ?_
        refine ok_getr F dX7_share_44 kF_X7_53 sh_20 rfl ?_
        refine ok_iload F dX7_share_47 3 rfl ?_
        refine ok_callv F [pI a] dX7_share_49 kM_X1_piecesFor kI_X1_piecesFor kV_X1_piecesFor kL_X7_274 (ci := 1) rfl sh_186 rfl (by decide) (Nat.le_of_ble_eq_true rfl) rfl (m_X1_piecesFor _ (tbC (m_2 190) (m_2 191) T) 0 T (mem 21 0) a m_2 (u3) (by omega)) ?_
        rintro _ _ ⟨rfl, rfl⟩
        refine ok_istore (lv' := [(6, pI (if (tbC (m_2 190) (m_2 191) T) (mem 21 0).toNat a < 1000000 then (tbC (m_2 190) (m_2 191) T) (mem 21 0).toNat a else -1)), (0, pR 20), (1, pL p), (3, pL c), (5, pI a)]) F dX7_share_52 (by decide) rfl ?_
        refine ok_iload F dX7_share_54 0 rfl ?_
        refine ok_if_lt F 69 dX7_share_56 (by decide) (by omega) (fun c_5 => ?_) (fun c_5 => ?_)
        · refine ok_iinc (lv' := [(5, pI (a + 1)), (6, pI (if (tbC (m_2 190) (m_2 191) T) (mem 21 0).toNat a < 1000000 then (tbC (m_2 190) (m_2 191) T) (mem 21 0).toNat a else -1)), (0, pR 20), (1, pL p), (3, pL c)]) F dX7_share_69 4 rfl (by decide) rfl ?_
          refine ok_goto F 35 dX7_share_72 (by decide) ?_
          refine ok_lvp [2, 3, 4, 0] (lv' := [(0, pR 20), (1, pL p), (3, pL c), (5, pI (a + 1))]) rfl ?_
          refine ih_35 _ ?_ p c (a + 1) ?_ rfl
          · omega
          · have h35 := hI_35
            refine ⟨by omega, by omega, ?_, ?_, by omega, by omega, by omega, by omega⟩
            all_goals rw [shrF_s _ _ _ hI_35.1]
            all_goals first
              | (rw [if_neg (show ¬ fewT (fun i => (mem 22 i).toNat) (fun i => (mem 23 i).toNat) (mem 21 0).toNat a.toNat < 1000000 by omega)]; first | exact hI_35.2.2.1 | exact hI_35.2.2.2.1)
              | (rw [if_pos (show fewT (fun i => (mem 22 i).toNat) (fun i => (mem 23 i).toNat) (mem 21 0).toNat a.toNat < 1000000 by omega)] <;> (try dsimp only) <;> omega)
        · refine ok_lload_n F dX7_share_59 2 rfl ?_
          refine ok_iload F dX7_share_60 0 rfl ?_
          refine ok_i2l F dX7_share_62 (by omega) ?_
          refine ok_ladd F dX7_share_63 ?_
          refine ok_lstore_n (lv' := [(1, pL (p + (if (tbC (m_2 190) (m_2 191) T) (mem 21 0).toNat a < 1000000 then (tbC (m_2 190) (m_2 191) T) (mem 21 0).toNat a else -1))), (6, pI (if (tbC (m_2 190) (m_2 191) T) (mem 21 0).toNat a < 1000000 then (tbC (m_2 190) (m_2 191) T) (mem 21 0).toNat a else -1)), (0, pR 20), (3, pL c), (5, pI a)]) F dX7_share_64 (by decide) rfl ?_
          refine ok_lload_n F dX7_share_65 3 rfl ?_
          refine ok_lconst (z := 1) F dX7_share_66 rfl ?_
          refine ok_ladd F dX7_share_67 ?_
          refine ok_lstore_n (lv' := [(3, pL (c + 1)), (1, pL (p + (if (tbC (m_2 190) (m_2 191) T) (mem 21 0).toNat a < 1000000 then (tbC (m_2 190) (m_2 191) T) (mem 21 0).toNat a else -1))), (6, pI (if (tbC (m_2 190) (m_2 191) T) (mem 21 0).toNat a < 1000000 then (tbC (m_2 190) (m_2 191) T) (mem 21 0).toNat a else -1)), (0, pR 20), (5, pI a)]) F dX7_share_68 (by decide) rfl ?_
          refine ok_iinc (lv' := [(5, pI (a + 1)), (3, pL (c + 1)), (1, pL (p + (if (tbC (m_2 190) (m_2 191) T) (mem 21 0).toNat a < 1000000 then (tbC (m_2 190) (m_2 191) T) (mem 21 0).toNat a else -1))), (6, pI (if (tbC (m_2 190) (m_2 191) T) (mem 21 0).toNat a < 1000000 then (tbC (m_2 190) (m_2 191) T) (mem 21 0).toNat a else -1)), (0, pR 20)]) F dX7_share_69 4 rfl (by decide) rfl ?_
          refine ok_goto F 35 dX7_share_72 (by decide) ?_
          refine ok_lvp [4, 2, 1, 0] (lv' := [(0, pR 20), (1, pL (p + (if (tbC (m_2 190) (m_2 191) T) (mem 21 0).toNat a < 1000000 then (tbC (m_2 190) (m_2 191) T) (mem 21 0).toNat a else -1))), (3, pL (c + 1)), (5, pI (a + 1))]) rfl ?_
          refine ih_35 _ ?_ (p + (if (tbC (m_2 190) (m_2 191) T) (mem 21 0).toNat a < 1000000 then (tbC (m_2 190) (m_2 191) T) (mem 21 0).toNat a else -1)) (c + 1) (a + 1) ?_ rfl
          · omega
          · have h35 := hI_35
            refine ⟨by omega, by omega, ?_, ?_, by omega, by omega, by omega, by omega⟩
            all_goals rw [shrF_s _ _ _ hI_35.1]
            all_goals first
              | (rw [if_neg (show ¬ fewT (fun i => (mem 22 i).toNat) (fun i => (mem 23 i).toNat) (mem 21 0).toNat a.toNat < 1000000 by omega)]; first | exact hI_35.2.2.1 | exact hI_35.2.2.2.1)
              | (rw [if_pos (show fewT (fun i => (mem 22 i).toNat) (fun i => (mem 23 i).toNat) (mem 21 0).toNat a.toNat < 1000000 by omega)] <;> (try dsimp only) <;> omega)
  refine ok_lvp [3, 2, 1, 0] (lv' := [(0, pR 20), (1, pL 0), (3, pL 0), (5, pI 0)]) rfl ?_
  refine hL_35 _ 0 0 0 ?_ rfl
  exact ⟨by omega, by omega, rfl, rfl, by omega, by omega, by omega, by omega⟩
theorem dX7_mean_0 : decode cX7_mean 0 = .ok (.aload_n 0, 1) := by decide +kernel
theorem dX7_mean_1 : decode cX7_mean 1 = .ok (.iload_n 1, 1) := by decide +kernel
theorem dX7_mean_2 : decode cX7_mean 2 = .ok (.invokevirtual 146, 3) := by decide +kernel
theorem dX7_mean_5 : decode cX7_mean 5 = .ok (.ifCond .ne 7, 3) := by decide +kernel
theorem dX7_mean_8 : decode cX7_mean 8 = .ok (.ldc2_w 258, 3) := by decide +kernel
theorem dX7_mean_11 : decode cX7_mean 11 = .ok (.lreturn, 1) := by decide +kernel
theorem dX7_mean_12 : decode cX7_mean 12 = .ok (.aload_n 0, 1) := by decide +kernel
theorem dX7_mean_13 : decode cX7_mean 13 = .ok (.getfield 38, 3) := by decide +kernel
theorem dX7_mean_16 : decode cX7_mean 16 = .ok (.aload_n 0, 1) := by decide +kernel
theorem dX7_mean_17 : decode cX7_mean 17 = .ok (.getfield 10, 3) := by decide +kernel
theorem dX7_mean_20 : decode cX7_mean 20 = .ok (.getfield 133, 3) := by decide +kernel
theorem dX7_mean_23 : decode cX7_mean 23 = .ok (.aload_n 0, 1) := by decide +kernel
theorem dX7_mean_24 : decode cX7_mean 24 = .ok (.getfield 10, 3) := by decide +kernel
theorem dX7_mean_27 : decode cX7_mean 27 = .ok (.iload_n 1, 1) := by decide +kernel
theorem dX7_mean_28 : decode cX7_mean 28 = .ok (.invokevirtual 149, 3) := by decide +kernel
theorem dX7_mean_31 : decode cX7_mean 31 = .ok (.aload_n 0, 1) := by decide +kernel
theorem dX7_mean_32 : decode cX7_mean 32 = .ok (.getfield 38, 3) := by decide +kernel
theorem dX7_mean_35 : decode cX7_mean 35 = .ok (.getfield 290, 3) := by decide +kernel
theorem dX7_mean_38 : decode cX7_mean 38 = .ok (.i2l, 1) := by decide +kernel
theorem dX7_mean_39 : decode cX7_mean 39 = .ok (.aload_n 0, 1) := by decide +kernel
theorem dX7_mean_40 : decode cX7_mean 40 = .ok (.getfield 10, 3) := by decide +kernel
theorem dX7_mean_43 : decode cX7_mean 43 = .ok (.iload_n 1, 1) := by decide +kernel
theorem dX7_mean_44 : decode cX7_mean 44 = .ok (.invokevirtual 215, 3) := by decide +kernel
theorem dX7_mean_47 : decode cX7_mean 47 = .ok (.aload_n 0, 1) := by decide +kernel
theorem dX7_mean_48 : decode cX7_mean 48 = .ok (.getfield 38, 3) := by decide +kernel
theorem dX7_mean_51 : decode cX7_mean 51 = .ok (.getfield 158, 3) := by decide +kernel
theorem dX7_mean_54 : decode cX7_mean 54 = .ok (.isub, 1) := by decide +kernel
theorem dX7_mean_55 : decode cX7_mean 55 = .ok (.i2l, 1) := by decide +kernel
theorem dX7_mean_56 : decode cX7_mean 56 = .ok (.invokestatic 277, 3) := by decide +kernel
theorem dX7_mean_59 : decode cX7_mean 59 = .ok (.lreturn, 1) := by decide +kernel
set_option maxHeartbeats 4000000 in
set_option maxRecDepth 100000 in
theorem m_X7_mean (l : Launch) (f : Nat → Int) (d : Int) (mem : Mem) (hd : i32 d) (hCI : CI mem) (hRS : RS mem 21 f) (hG : GR f) : Ret shp l yX7_mean cX7_mean 2 (some .long) 6 [pR 20, pI d] mem (fun rv mv => ∃ z, rv = some (pL z) ∧ KeepC mem mv ∧ z = if 0 ≤ d ∧ d < f 1 then qotB (LF f d (tilF f)).2.2.2.1 (LF f d (tilF f)).2.2.2.2.1 else -1) := by
  refine ret_of (by decide +kernel) (Nat.le_of_ble_eq_true rfl) (fun X hX F G => ?_)
  show Ok shp X 2 0 [(0, pR 20), (1, pI d)] [] mem
  have he0 : mem 21 0 = f 0 := hRS.1
  have he1 : mem 21 1 = f 1 := hRS.2.1
  have gb0 := hG.1
  have gb1 := hG.2.1
  have gb2 := hG.2.2.1
  have hTl : ∀ k : Nat, k < 8 → mem 23 k = f (11 + k) := fun k hk => hRS.2.2.1 1 (by omega) k hk
  have hT : ∀ k : Nat, k < 8 → 0 ≤ f (11 + k) ∧ f (11 + k) ≤ 99 := fun k hk => hG.2.2.2.2.2.1 0 (by omega) k hk
  have hW : ∀ k : Nat, k < 8 → 0 ≤ mem 23 k ∧ mem 23 k ≤ 99 := fun k hk => by rw [hTl k hk]; exact hT k hk
  refine ok_aload_n F dX7_mean_0 0 rfl ?_
  refine ok_iload_n F dX7_mean_1 1 rfl ?_
  refine ok_callv F [pI d] dX7_mean_2 kM_X7_hasDay kI_X7_hasDay kV_X7_hasDay kL_X7_146 (ci := 7) rfl sh_20 rfl (by decide) (Nat.le_of_ble_eq_true rfl) rfl (m_X7_hasDay _ d mem (by omega) (by omega)) ?_
  rintro _ _ ⟨rfl, rfl⟩
  refine ok_if_ne F 12 dX7_mean_5 (by decide) (by omega) (fun c_1 => ?_) (fun c_1 => ?_)
  · refine ok_aload_n F dX7_mean_12 0 rfl ?_
    refine ok_getr F dX7_mean_13 kF_X7_38 sh_20 rfl ?_
    refine ok_aload_n F dX7_mean_16 0 rfl ?_
    refine ok_getr F dX7_mean_17 kF_X7_10 sh_20 rfl ?_
    refine ok_getr F dX7_mean_20 kF_X7_133 sh_21 rfl ?_
    refine ok_aload_n F dX7_mean_23 0 rfl ?_
    refine ok_getr F dX7_mean_24 kF_X7_10 sh_20 rfl ?_
    refine ok_iload_n F dX7_mean_27 1 rfl ?_
    refine ok_callv F [pR 23, pR 21, pI d] dX7_mean_28 kM_X2_liveFrom kI_X2_liveFrom kV_X2_liveFrom kL_X7_149 (ci := 2) rfl sh_179 rfl (by decide) (Nat.le_of_ble_eq_true rfl) rfl (m_X2_liveFrom _ f 23 d mem (hCI) (hRS) (hG) (sh_23) (by decide) (hW) (by omega)) ?_
    rintro _ m_3 ⟨rfl, r_4⟩
    obtain ⟨l1, l2, l3, l4⟩ := id r_4
    have lL : LRepC m_3 (LF f d (tilF f)) := l3.congr (LF_congr hG hTl)
    have lB := LF_bd (d := d) (w := tilF f) hG hT
    have lP := LF_pc (f := f) (d := d) (w := tilF f)
    have lB3 := lB.2.2.1
    have hkp : KeepC mem m_3 := ⟨fun c hc => l1 c (by omega), l2⟩
    have lsh := lL.2.2.1
    have lpc := lL.2.2.2.1
    have l211 : m_3 21 1 = f 1 := by rw [l1 21 (by decide)]; exact he1
    have lpb := LF_pc (f := f) (d := d) (w := tilF f)
    refine ok_aload_n F dX7_mean_31 0 rfl ?_
    refine ok_getr F dX7_mean_32 kF_X7_38 sh_20 rfl ?_
    refine ok_getf (v := m_3 179 4) F dX7_mean_35 kF_X7_290 sh_179 rfl rfl ?_
    refine ok_i2l F dX7_mean_38 (by omega) ?_
    refine ok_aload_n F dX7_mean_39 0 rfl ?_
    refine ok_getr F dX7_mean_40 kF_X7_10 sh_20 rfl ?_
    refine ok_iload_n F dX7_mean_43 1 rfl ?_
    refine ok_callv F [pI d] dX7_mean_44 kM_X6_salesOf kI_X6_salesOf kV_X6_salesOf kL_X7_215 (ci := 6) rfl sh_21 rfl (by decide) (Nat.le_of_ble_eq_true rfl) rfl (m_X6_salesOf_21 _ d m_3 (by omega) (by omega)) ?_
    rintro _ _ ⟨rfl, rfl⟩
    refine ok_aload_n F dX7_mean_47 0 rfl ?_
    refine ok_getr F dX7_mean_48 kF_X7_38 sh_20 rfl ?_
    have hns : nsaD (m_3 29) (m_3 21 1) d = dayC f d := by rw [l1 29 (by decide), l1 21 (by decide), he1]; exact hRS.nsa hG (by omega)
    have hgd := LF_goods (w := tilF f) hG (show 0 ≤ d by omega)
    have lB4 := lB.2.2.2
    refine ok_getf (v := m_3 179 3) F dX7_mean_51 kF_X7_158 sh_179 rfl rfl ?_
    refine ok_isub F dX7_mean_54 ?_
    refine ok_i2l F dX7_mean_55 (by omega) ?_
    refine ok_calls F [pL (m_3 179 4), pL ((nsaD (m_3 29) (m_3 21 1) d) - (m_3 179 3))] dX7_mean_56 kM_X7_bitsOfQuotient kS_X7_bitsOfQuotient kL_X7_277 rfl (by decide) (Nat.le_of_ble_eq_true rfl) rfl (m_X7_bitsOfQuotient _ (m_3 179 4) ((nsaD (m_3 29) (m_3 21 1) d) - (m_3 179 3)) m_3 (by omega) (by omega)) ?_
    rintro _ _ ⟨rfl, rfl⟩
    refine ok_lret F G dX7_mean_59 ?_
    refine ⟨_, rfl, hkp, ?_⟩
    rw [if_pos (by omega), lpc, hns, lsh, ← hgd, Int.add_comm, Int.add_sub_cancel]
  · refine ok_ldc2 (n := -1) F dX7_mean_8 kJ_X7_258 rfl ?_
    refine ok_lret F G dX7_mean_11 ?_
    exact ⟨_, rfl, KeepC.rf hCI, by rw [if_neg (by omega)]⟩
