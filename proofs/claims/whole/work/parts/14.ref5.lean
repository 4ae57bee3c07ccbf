/-! the reference: sales looked up, counted; the reading of a text -/
theorem saleAt_bd (f : Nat → Int) (d k : Int) : ∀ (n s : Nat) (i : Int), saleAt f d k n s i = -1 ∨ ∃ t : Nat, saleAt f d k n s i = t ∧ t < s + n ∧ s ≤ t
  | 0, _, _ => Or.inl rfl
  | n + 1, s, i => by
    unfold saleAt
    by_cases h : sDay f s = d
    · rw [if_pos h]
      by_cases h2 : i = k
      · rw [if_pos h2]
        exact Or.inr ⟨s, rfl, by omega, by omega⟩
      · rw [if_neg h2]
        rcases saleAt_bd f d k n (s + 1) (i + 1) with e | ⟨t, e1, e2, e3⟩
        · exact Or.inl e
        · exact Or.inr ⟨t, e1, by omega, by omega⟩
    · rw [if_neg h]
      rcases saleAt_bd f d k n (s + 1) i with e | ⟨t, e1, e2, e3⟩
      · exact Or.inl e
      · exact Or.inr ⟨t, e1, by omega, by omega⟩
/-- the place in now of the k-th sale of a day; none -/
def placeOf (f : Nat → Int) (n : Nat) (d k : Int) : Int := if saleAt f d k n 0 0 = -1 then -1 else 59 + 10 * saleAt f d k n 0 0
theorem dX8_salesOf_0 : decode cX8_salesOf 0 = .ok (.iconst 0, 1) := by decide +kernel
theorem dX8_salesOf_1 : decode cX8_salesOf 1 = .ok (.istore_n 2, 1) := by decide +kernel
theorem dX8_salesOf_2 : decode cX8_salesOf 2 = .ok (.iconst 0, 1) := by decide +kernel
theorem dX8_salesOf_3 : decode cX8_salesOf 3 = .ok (.istore_n 3, 1) := by decide +kernel
theorem dX8_salesOf_4 : decode cX8_salesOf 4 = .ok (.iload_n 3, 1) := by decide +kernel
theorem dX8_salesOf_5 : decode cX8_salesOf 5 = .ok (.aload_n 0, 1) := by decide +kernel
theorem dX8_salesOf_6 : decode cX8_salesOf 6 = .ok (.getfield 9, 3) := by decide +kernel
theorem dX8_salesOf_9 : decode cX8_salesOf 9 = .ok (.iconst 2, 1) := by decide +kernel
theorem dX8_salesOf_10 : decode cX8_salesOf 10 = .ok (.iaload, 1) := by decide +kernel
theorem dX8_salesOf_11 : decode cX8_salesOf 11 = .ok (.if_icmp .ge 36, 3) := by decide +kernel
theorem dX8_salesOf_14 : decode cX8_salesOf 14 = .ok (.iload_n 2, 1) := by decide +kernel
theorem dX8_salesOf_15 : decode cX8_salesOf 15 = .ok (.aload_n 0, 1) := by decide +kernel
theorem dX8_salesOf_16 : decode cX8_salesOf 16 = .ok (.getfield 9, 3) := by decide +kernel
theorem dX8_salesOf_19 : decode cX8_salesOf 19 = .ok (.bipush 59, 2) := by decide +kernel
theorem dX8_salesOf_21 : decode cX8_salesOf 21 = .ok (.bipush 10, 2) := by decide +kernel
theorem dX8_salesOf_23 : decode cX8_salesOf 23 = .ok (.iload_n 3, 1) := by decide +kernel
theorem dX8_salesOf_24 : decode cX8_salesOf 24 = .ok (.imul, 1) := by decide +kernel
theorem dX8_salesOf_25 : decode cX8_salesOf 25 = .ok (.iadd, 1) := by decide +kernel
theorem dX8_salesOf_26 : decode cX8_salesOf 26 = .ok (.iaload, 1) := by decide +kernel
theorem dX8_salesOf_27 : decode cX8_salesOf 27 = .ok (.iload_n 1, 1) := by decide +kernel
theorem dX8_salesOf_28 : decode cX8_salesOf 28 = .ok (.if_icmp .ne 7, 3) := by decide +kernel
theorem dX8_salesOf_31 : decode cX8_salesOf 31 = .ok (.iconst 1, 1) := by decide +kernel
theorem dX8_salesOf_32 : decode cX8_salesOf 32 = .ok (.goto 4, 3) := by decide +kernel
theorem dX8_salesOf_35 : decode cX8_salesOf 35 = .ok (.iconst 0, 1) := by decide +kernel
theorem dX8_salesOf_36 : decode cX8_salesOf 36 = .ok (.invokestatic 137, 3) := by decide +kernel
theorem dX8_salesOf_39 : decode cX8_salesOf 39 = .ok (.iadd, 1) := by decide +kernel
theorem dX8_salesOf_40 : decode cX8_salesOf 40 = .ok (.istore_n 2, 1) := by decide +kernel
theorem dX8_salesOf_41 : decode cX8_salesOf 41 = .ok (.iinc 3 1, 3) := by decide +kernel
theorem dX8_salesOf_44 : decode cX8_salesOf 44 = .ok (.goto (-40), 3) := by decide +kernel
theorem dX8_salesOf_47 : decode cX8_salesOf 47 = .ok (.iload_n 2, 1) := by decide +kernel
theorem dX8_salesOf_48 : decode cX8_salesOf 48 = .ok (.ireturn, 1) := by decide +kernel
set_option maxHeartbeats 4000000 in
set_option maxRecDepth 100000 in
theorem m_X8_salesOf (l : Launch) (d : Int) (mem : Mem) (hd : i32 d) (hN2 : 0 ≤ mem 1 2 ∧ mem 1 2 ≤ 40) (hR : ∀ b, i32 (mem 1 b)) : Ret shp l yX8_salesOf cX8_salesOf 4 (some .int) 1 [pR 0, pI d] mem (fun rv mv => rv = some (pI (sumN (fun s => if sDay (mem 1) s = d then 1 else 0) (mem 1 2).toNat)) ∧ mem = mv) := by
  refine ret_of (by decide +kernel) (Nat.le_of_ble_eq_true rfl) (fun X hX F G => ?_)
  show Ok shp X 4 0 [(0, pR 0), (1, pI d)] [] mem
  refine ok_iconst F dX8_salesOf_0 ?_
  refine ok_istore_n (lv' := [(2, pI 0), (0, pR 0), (1, pI d)]) F dX8_salesOf_1 (by decide) rfl ?_
  refine ok_iconst F dX8_salesOf_2 ?_
  refine ok_istore_n (lv' := [(3, pI 0), (2, pI 0), (0, pR 0), (1, pI d)]) F dX8_salesOf_3 (by decide) rfl ?_
  have hL_4 : ∀ (n_4 : Nat) (n2 : Int) (s : Int), (0 ≤ s ∧ s ≤ mem 1 2 ∧ n2 = sumN (fun s => if sDay (mem 1) s = d then 1 else 0) s.toNat) → (mem 1 2 - s).toNat = n_4 → Ok shp X 4 4 [(0, pR 0), (1, pI d), (2, pI n2), (3, pI s)] [] mem := by
    intro n_4
    induction n_4 using Nat.strongRecOn with
    | _ n_4 ih_4 =>
      intro n2 s hI_4 hn_4
      refine ok_iload_n F dX8_salesOf_4 3 rfl ?_
      refine ok_aload_n F dX8_salesOf_5 0 rfl ?_
      refine ok_getr F dX8_salesOf_6 kF_X8_9 sh_0 rfl ?_
      refine ok_iconst F dX8_salesOf_9 ?_
      refine ok_iald (v := mem 1 2) F dX8_salesOf_10 sh_1 (by first | decide | assumption) (by first | omega | exact hR _) (by first | omega | exact hR _) rfl ?_
      refine ok_icmp_ge F 47 dX8_salesOf_11 (by decide) (by first | omega | exact hR _) (by first | omega | exact hR _) (fun c_1 => ?_) (fun c_1 => ?_)
      · refine ok_iload_n F dX8_salesOf_47 2 rfl ?_
        refine ok_iret F G dX8_salesOf_48 ?_
        exact ⟨by rw [hI_4.2.2, show s = mem 1 2 by omega], rfl⟩
      · refine ok_iload_n F dX8_salesOf_14 2 rfl ?_
        refine ok_aload_n F dX8_salesOf_15 0 rfl ?_
        refine ok_getr F dX8_salesOf_16 kF_X8_9 sh_0 rfl ?_
        refine ok_bipush F dX8_salesOf_19 rfl ?_
        refine ok_bipush F dX8_salesOf_21 rfl ?_
        refine ok_iload_n F dX8_salesOf_23 3 rfl ?_
        refine ok_imul F dX8_salesOf_24 ?_
        refine ok_iadd F dX8_salesOf_25 ?_
        refine ok_iald (v := mem 1 ((59 + (10 * s)).toNat)) F dX8_salesOf_26 sh_1 (by first | decide | assumption) (by first | omega | exact hR _) (by first | omega | exact hR _) rfl ?_
        refine ok_iload_n F dX8_salesOf_27 1 rfl ?_
        refine ok_icmp_ne F 35 dX8_salesOf_28 (by decide) (by first | omega | exact hR _) (by first | omega | exact hR _) (fun c_2 => ?_) (fun c_2 => ?_)
        · refine ok_iconst F dX8_salesOf_35 ?_
          refine ok_calls F [pI 0] dX8_salesOf_36 kM_X8_truth kS_X8_truth kL_X8_137 rfl (by decide) (Nat.le_of_ble_eq_true rfl) rfl (m_X8_truth _ 0 mem (by omega)) ?_
          rintro _ _ ⟨rfl, rfl⟩
          refine ok_iadd F dX8_salesOf_39 ?_
          refine ok_istore_n (lv' := [(2, pI (n2 + (if 0 = 0 then 0 else 1))), (0, pR 0), (1, pI d), (3, pI s)]) F dX8_salesOf_40 (by decide) rfl ?_
          refine ok_iinc (lv' := [(3, pI (s + 1)), (2, pI (n2 + (if 0 = 0 then 0 else 1))), (0, pR 0), (1, pI d)]) F dX8_salesOf_41 3 rfl (by decide) rfl ?_
          refine ok_goto F 4 dX8_salesOf_44 (by decide) ?_
          refine ok_lvp [2, 3, 1, 0] (lv' := [(0, pR 0), (1, pI d), (2, pI (n2 + (if 0 = 0 then 0 else 1))), (3, pI (s + 1))]) rfl ?_
          refine ih_4 _ ?_ (n2 + (if 0 = 0 then 0 else 1)) (s + 1) ?_ rfl
          · omega
          · refine ⟨by omega, by omega, ?_⟩
            rw [sumN_s _ hI_4.1, ← hI_4.2.2, sDay, show 59 + 10 * s.toNat = (59 + (10 * s)).toNat by omega]
            first | rw [if_pos (by omega : mem 1 (59 + (10 * s)).toNat = d)] | rw [if_neg (by omega : ¬ mem 1 (59 + (10 * s)).toNat = d)]
            rfl
        · refine ok_iconst F dX8_salesOf_31 ?_
          refine ok_goto F 36 dX8_salesOf_32 (by decide) ?_
          refine ok_calls F [pI 1] dX8_salesOf_36 kM_X8_truth kS_X8_truth kL_X8_137 rfl (by decide) (Nat.le_of_ble_eq_true rfl) rfl (m_X8_truth _ 1 mem (by omega)) ?_
          rintro _ _ ⟨rfl, rfl⟩
          refine ok_iadd F dX8_salesOf_39 ?_
          refine ok_istore_n (lv' := [(2, pI (n2 + (if 1 = 0 then 0 else 1))), (0, pR 0), (1, pI d), (3, pI s)]) F dX8_salesOf_40 (by decide) rfl ?_
          refine ok_iinc (lv' := [(3, pI (s + 1)), (2, pI (n2 + (if 1 = 0 then 0 else 1))), (0, pR 0), (1, pI d)]) F dX8_salesOf_41 3 rfl (by decide) rfl ?_
          refine ok_goto F 4 dX8_salesOf_44 (by decide) ?_
          refine ok_lvp [2, 3, 1, 0] (lv' := [(0, pR 0), (1, pI d), (2, pI (n2 + (if 1 = 0 then 0 else 1))), (3, pI (s + 1))]) rfl ?_
          refine ih_4 _ ?_ (n2 + (if 1 = 0 then 0 else 1)) (s + 1) ?_ rfl
          · omega
          · refine ⟨by omega, by omega, ?_⟩
            rw [sumN_s _ hI_4.1, ← hI_4.2.2, sDay, show 59 + 10 * s.toNat = (59 + (10 * s)).toNat by omega]
            first | rw [if_pos (by omega : mem 1 (59 + (10 * s)).toNat = d)] | rw [if_neg (by omega : ¬ mem 1 (59 + (10 * s)).toNat = d)]
            rfl
  refine ok_lvp [2, 3, 1, 0] (lv' := [(0, pR 0), (1, pI d), (2, pI 0), (3, pI 0)]) rfl ?_
  refine hL_4 _ 0 0 ?_ rfl
  exact ⟨by omega, by omega, rfl⟩
theorem dX8_pricesOf_0 : decode cX8_pricesOf 0 = .ok (.iconst 0, 1) := by decide +kernel
theorem dX8_pricesOf_1 : decode cX8_pricesOf 1 = .ok (.istore_n 2, 1) := by decide +kernel
theorem dX8_pricesOf_2 : decode cX8_pricesOf 2 = .ok (.iconst 0, 1) := by decide +kernel
theorem dX8_pricesOf_3 : decode cX8_pricesOf 3 = .ok (.istore_n 3, 1) := by decide +kernel
theorem dX8_pricesOf_4 : decode cX8_pricesOf 4 = .ok (.iload_n 3, 1) := by decide +kernel
theorem dX8_pricesOf_5 : decode cX8_pricesOf 5 = .ok (.aload_n 0, 1) := by decide +kernel
theorem dX8_pricesOf_6 : decode cX8_pricesOf 6 = .ok (.getfield 9, 3) := by decide +kernel
theorem dX8_pricesOf_9 : decode cX8_pricesOf 9 = .ok (.iconst 2, 1) := by decide +kernel
theorem dX8_pricesOf_10 : decode cX8_pricesOf 10 = .ok (.iaload, 1) := by decide +kernel
theorem dX8_pricesOf_11 : decode cX8_pricesOf 11 = .ok (.if_icmp .ge 46, 3) := by decide +kernel
theorem dX8_pricesOf_14 : decode cX8_pricesOf 14 = .ok (.iload_n 2, 1) := by decide +kernel
theorem dX8_pricesOf_15 : decode cX8_pricesOf 15 = .ok (.aload_n 0, 1) := by decide +kernel
theorem dX8_pricesOf_16 : decode cX8_pricesOf 16 = .ok (.getfield 9, 3) := by decide +kernel
theorem dX8_pricesOf_19 : decode cX8_pricesOf 19 = .ok (.bipush 59, 2) := by decide +kernel
theorem dX8_pricesOf_21 : decode cX8_pricesOf 21 = .ok (.bipush 10, 2) := by decide +kernel
theorem dX8_pricesOf_23 : decode cX8_pricesOf 23 = .ok (.iload_n 3, 1) := by decide +kernel
theorem dX8_pricesOf_24 : decode cX8_pricesOf 24 = .ok (.imul, 1) := by decide +kernel
theorem dX8_pricesOf_25 : decode cX8_pricesOf 25 = .ok (.iadd, 1) := by decide +kernel
theorem dX8_pricesOf_26 : decode cX8_pricesOf 26 = .ok (.iaload, 1) := by decide +kernel
theorem dX8_pricesOf_27 : decode cX8_pricesOf 27 = .ok (.iload_n 1, 1) := by decide +kernel
theorem dX8_pricesOf_28 : decode cX8_pricesOf 28 = .ok (.if_icmp .ne 20, 3) := by decide +kernel
theorem dX8_pricesOf_31 : decode cX8_pricesOf 31 = .ok (.aload_n 0, 1) := by decide +kernel
theorem dX8_pricesOf_32 : decode cX8_pricesOf 32 = .ok (.getfield 9, 3) := by decide +kernel
theorem dX8_pricesOf_35 : decode cX8_pricesOf 35 = .ok (.bipush 59, 2) := by decide +kernel
theorem dX8_pricesOf_37 : decode cX8_pricesOf 37 = .ok (.bipush 10, 2) := by decide +kernel
theorem dX8_pricesOf_39 : decode cX8_pricesOf 39 = .ok (.iload_n 3, 1) := by decide +kernel
theorem dX8_pricesOf_40 : decode cX8_pricesOf 40 = .ok (.imul, 1) := by decide +kernel
theorem dX8_pricesOf_41 : decode cX8_pricesOf 41 = .ok (.iadd, 1) := by decide +kernel
theorem dX8_pricesOf_42 : decode cX8_pricesOf 42 = .ok (.iconst 1, 1) := by decide +kernel
theorem dX8_pricesOf_43 : decode cX8_pricesOf 43 = .ok (.iadd, 1) := by decide +kernel
theorem dX8_pricesOf_44 : decode cX8_pricesOf 44 = .ok (.iaload, 1) := by decide +kernel
theorem dX8_pricesOf_45 : decode cX8_pricesOf 45 = .ok (.goto 4, 3) := by decide +kernel
theorem dX8_pricesOf_48 : decode cX8_pricesOf 48 = .ok (.iconst 0, 1) := by decide +kernel
theorem dX8_pricesOf_49 : decode cX8_pricesOf 49 = .ok (.iadd, 1) := by decide +kernel
theorem dX8_pricesOf_50 : decode cX8_pricesOf 50 = .ok (.istore_n 2, 1) := by decide +kernel
theorem dX8_pricesOf_51 : decode cX8_pricesOf 51 = .ok (.iinc 3 1, 3) := by decide +kernel
theorem dX8_pricesOf_54 : decode cX8_pricesOf 54 = .ok (.goto (-50), 3) := by decide +kernel
theorem dX8_pricesOf_57 : decode cX8_pricesOf 57 = .ok (.iload_n 2, 1) := by decide +kernel
theorem dX8_pricesOf_58 : decode cX8_pricesOf 58 = .ok (.ireturn, 1) := by decide +kernel
set_option maxHeartbeats 4000000 in
set_option maxRecDepth 100000 in
theorem m_X8_pricesOf (l : Launch) (d : Int) (mem : Mem) (hd : i32 d) (hN2 : 0 ≤ mem 1 2 ∧ mem 1 2 ≤ 40) (hR : ∀ b, i32 (mem 1 b)) : Ret shp l yX8_pricesOf cX8_pricesOf 4 (some .int) 0 [pR 0, pI d] mem (fun rv mv => rv = some (pI (sumN (fun s => if sDay (mem 1) s = d then sPrice (mem 1) s else 0) (mem 1 2).toNat)) ∧ mem = mv) := by
  refine ret_of (by decide +kernel) (Nat.le_of_ble_eq_true rfl) (fun X hX F G => ?_)
  show Ok shp X 4 0 [(0, pR 0), (1, pI d)] [] mem
  refine ok_iconst F dX8_pricesOf_0 ?_
  refine ok_istore_n (lv' := [(2, pI 0), (0, pR 0), (1, pI d)]) F dX8_pricesOf_1 (by decide) rfl ?_
  refine ok_iconst F dX8_pricesOf_2 ?_
  refine ok_istore_n (lv' := [(3, pI 0), (2, pI 0), (0, pR 0), (1, pI d)]) F dX8_pricesOf_3 (by decide) rfl ?_
  have hL_4 : ∀ (n_4 : Nat) (n2 : Int) (s : Int), (0 ≤ s ∧ s ≤ mem 1 2 ∧ n2 = sumN (fun s => if sDay (mem 1) s = d then sPrice (mem 1) s else 0) s.toNat) → (mem 1 2 - s).toNat = n_4 → Ok shp X 4 4 [(0, pR 0), (1, pI d), (2, pI n2), (3, pI s)] [] mem := by
    intro n_4
    induction n_4 using Nat.strongRecOn with
    | _ n_4 ih_4 =>
      intro n2 s hI_4 hn_4
      refine ok_iload_n F dX8_pricesOf_4 3 rfl ?_
      refine ok_aload_n F dX8_pricesOf_5 0 rfl ?_
      refine ok_getr F dX8_pricesOf_6 kF_X8_9 sh_0 rfl ?_
      refine ok_iconst F dX8_pricesOf_9 ?_
      refine ok_iald (v := mem 1 2) F dX8_pricesOf_10 sh_1 (by first | decide | assumption) (by first | omega | exact hR _) (by first | omega | exact hR _) rfl ?_
      refine ok_icmp_ge F 57 dX8_pricesOf_11 (by decide) (by first | omega | exact hR _) (by first | omega | exact hR _) (fun c_1 => ?_) (fun c_1 => ?_)
      · refine ok_iload_n F dX8_pricesOf_57 2 rfl ?_
        refine ok_iret F G dX8_pricesOf_58 ?_
        exact ⟨by rw [hI_4.2.2, show s = mem 1 2 by omega], rfl⟩
      · refine ok_iload_n F dX8_pricesOf_14 2 rfl ?_
        refine ok_aload_n F dX8_pricesOf_15 0 rfl ?_
        refine ok_getr F dX8_pricesOf_16 kF_X8_9 sh_0 rfl ?_
        refine ok_bipush F dX8_pricesOf_19 rfl ?_
        refine ok_bipush F dX8_pricesOf_21 rfl ?_
        refine ok_iload_n F dX8_pricesOf_23 3 rfl ?_
        refine ok_imul F dX8_pricesOf_24 ?_
        refine ok_iadd F dX8_pricesOf_25 ?_
        refine ok_iald (v := mem 1 ((59 + (10 * s)).toNat)) F dX8_pricesOf_26 sh_1 (by first | decide | assumption) (by first | omega | exact hR _) (by first | omega | exact hR _) rfl ?_
        refine ok_iload_n F dX8_pricesOf_27 1 rfl ?_
        refine ok_icmp_ne F 48 dX8_pricesOf_28 (by decide) (by first | omega | exact hR _) (by first | omega | exact hR _) (fun c_2 => ?_) (fun c_2 => ?_)
        · refine ok_iconst F dX8_pricesOf_48 ?_
          refine ok_iadd F dX8_pricesOf_49 ?_
          refine ok_istore_n (lv' := [(2, pI (n2 + 0)), (0, pR 0), (1, pI d), (3, pI s)]) F dX8_pricesOf_50 (by decide) rfl ?_
          refine ok_iinc (lv' := [(3, pI (s + 1)), (2, pI (n2 + 0)), (0, pR 0), (1, pI d)]) F dX8_pricesOf_51 3 rfl (by decide) rfl ?_
          refine ok_goto F 4 dX8_pricesOf_54 (by decide) ?_
          refine ok_lvp [2, 3, 1, 0] (lv' := [(0, pR 0), (1, pI d), (2, pI (n2 + 0)), (3, pI (s + 1))]) rfl ?_
          refine ih_4 _ ?_ (n2 + 0) (s + 1) ?_ rfl
          · omega
          · refine ⟨by omega, by omega, ?_⟩
            rw [sumN_s _ hI_4.1, ← hI_4.2.2, sDay, sPrice, show 59 + 10 * s.toNat = (59 + (10 * s)).toNat by omega, show 60 + 10 * s.toNat = (59 + (10 * s) + 1).toNat by omega]
            first | rw [if_pos (by omega : mem 1 (59 + (10 * s)).toNat = d)] | rw [if_neg (by omega : ¬ mem 1 (59 + (10 * s)).toNat = d)]
        · refine ok_aload_n F dX8_pricesOf_31 0 rfl ?_
          refine ok_getr F dX8_pricesOf_32 kF_X8_9 sh_0 rfl ?_
          refine ok_bipush F dX8_pricesOf_35 rfl ?_
          refine ok_bipush F dX8_pricesOf_37 rfl ?_
          refine ok_iload_n F dX8_pricesOf_39 3 rfl ?_
          refine ok_imul F dX8_pricesOf_40 ?_
          refine ok_iadd F dX8_pricesOf_41 ?_
          refine ok_iconst F dX8_pricesOf_42 ?_
          refine ok_iadd F dX8_pricesOf_43 ?_
          refine ok_iald (v := mem 1 (((59 + (10 * s)) + 1).toNat)) F dX8_pricesOf_44 sh_1 (by first | decide | assumption) (by first | omega | exact hR _) (by first | omega | exact hR _) rfl ?_
          refine ok_goto F 49 dX8_pricesOf_45 (by decide) ?_
          refine ok_iadd F dX8_pricesOf_49 ?_
          refine ok_istore_n (lv' := [(2, pI (n2 + (mem 1 (((59 + (10 * s)) + 1).toNat)))), (0, pR 0), (1, pI d), (3, pI s)]) F dX8_pricesOf_50 (by decide) rfl ?_
          refine ok_iinc (lv' := [(3, pI (s + 1)), (2, pI (n2 + (mem 1 (((59 + (10 * s)) + 1).toNat)))), (0, pR 0), (1, pI d)]) F dX8_pricesOf_51 3 rfl (by decide) rfl ?_
          refine ok_goto F 4 dX8_pricesOf_54 (by decide) ?_
          refine ok_lvp [2, 3, 1, 0] (lv' := [(0, pR 0), (1, pI d), (2, pI (n2 + (mem 1 (((59 + (10 * s)) + 1).toNat)))), (3, pI (s + 1))]) rfl ?_
          refine ih_4 _ ?_ (n2 + (mem 1 (((59 + (10 * s)) + 1).toNat))) (s + 1) ?_ rfl
          · omega
          · refine ⟨by omega, by omega, ?_⟩
            rw [sumN_s _ hI_4.1, ← hI_4.2.2, sDay, sPrice, show 59 + 10 * s.toNat = (59 + (10 * s)).toNat by omega, show 60 + 10 * s.toNat = (59 + (10 * s) + 1).toNat by omega]
            first | rw [if_pos (by omega : mem 1 (59 + (10 * s)).toNat = d)] | rw [if_neg (by omega : ¬ mem 1 (59 + (10 * s)).toNat = d)]
  refine ok_lvp [2, 3, 1, 0] (lv' := [(0, pR 0), (1, pI d), (2, pI 0), (3, pI 0)]) rfl ?_
  refine hL_4 _ 0 0 ?_ rfl
  exact ⟨by omega, by omega, rfl⟩
theorem dX8_saleOf_0 : decode cX8_saleOf 0 = .ok (.iconst 0, 1) := by decide +kernel
theorem dX8_saleOf_1 : decode cX8_saleOf 1 = .ok (.istore_n 3, 1) := by decide +kernel
theorem dX8_saleOf_2 : decode cX8_saleOf 2 = .ok (.iconst 0, 1) := by decide +kernel
theorem dX8_saleOf_3 : decode cX8_saleOf 3 = .ok (.istore 4, 2) := by decide +kernel
theorem dX8_saleOf_5 : decode cX8_saleOf 5 = .ok (.iload 4, 2) := by decide +kernel
theorem dX8_saleOf_7 : decode cX8_saleOf 7 = .ok (.aload_n 0, 1) := by decide +kernel
theorem dX8_saleOf_8 : decode cX8_saleOf 8 = .ok (.getfield 9, 3) := by decide +kernel
theorem dX8_saleOf_11 : decode cX8_saleOf 11 = .ok (.iconst 2, 1) := by decide +kernel
theorem dX8_saleOf_12 : decode cX8_saleOf 12 = .ok (.iaload, 1) := by decide +kernel
theorem dX8_saleOf_13 : decode cX8_saleOf 13 = .ok (.if_icmp .ge 43, 3) := by decide +kernel
theorem dX8_saleOf_16 : decode cX8_saleOf 16 = .ok (.aload_n 0, 1) := by decide +kernel
theorem dX8_saleOf_17 : decode cX8_saleOf 17 = .ok (.getfield 9, 3) := by decide +kernel
theorem dX8_saleOf_20 : decode cX8_saleOf 20 = .ok (.bipush 59, 2) := by decide +kernel
theorem dX8_saleOf_22 : decode cX8_saleOf 22 = .ok (.bipush 10, 2) := by decide +kernel
theorem dX8_saleOf_24 : decode cX8_saleOf 24 = .ok (.iload 4, 2) := by decide +kernel
theorem dX8_saleOf_26 : decode cX8_saleOf 26 = .ok (.imul, 1) := by decide +kernel
theorem dX8_saleOf_27 : decode cX8_saleOf 27 = .ok (.iadd, 1) := by decide +kernel
theorem dX8_saleOf_28 : decode cX8_saleOf 28 = .ok (.iaload, 1) := by decide +kernel
theorem dX8_saleOf_29 : decode cX8_saleOf 29 = .ok (.iload_n 1, 1) := by decide +kernel
theorem dX8_saleOf_30 : decode cX8_saleOf 30 = .ok (.if_icmp .ne 20, 3) := by decide +kernel
theorem dX8_saleOf_33 : decode cX8_saleOf 33 = .ok (.iload_n 3, 1) := by decide +kernel
theorem dX8_saleOf_34 : decode cX8_saleOf 34 = .ok (.iload_n 2, 1) := by decide +kernel
theorem dX8_saleOf_35 : decode cX8_saleOf 35 = .ok (.if_icmp .ne 12, 3) := by decide +kernel
theorem dX8_saleOf_38 : decode cX8_saleOf 38 = .ok (.bipush 59, 2) := by decide +kernel
theorem dX8_saleOf_40 : decode cX8_saleOf 40 = .ok (.bipush 10, 2) := by decide +kernel
theorem dX8_saleOf_42 : decode cX8_saleOf 42 = .ok (.iload 4, 2) := by decide +kernel
theorem dX8_saleOf_44 : decode cX8_saleOf 44 = .ok (.imul, 1) := by decide +kernel
theorem dX8_saleOf_45 : decode cX8_saleOf 45 = .ok (.iadd, 1) := by decide +kernel
theorem dX8_saleOf_46 : decode cX8_saleOf 46 = .ok (.ireturn, 1) := by decide +kernel
theorem dX8_saleOf_47 : decode cX8_saleOf 47 = .ok (.iinc 3 1, 3) := by decide +kernel
theorem dX8_saleOf_50 : decode cX8_saleOf 50 = .ok (.iinc 4 1, 3) := by decide +kernel
theorem dX8_saleOf_53 : decode cX8_saleOf 53 = .ok (.goto (-48), 3) := by decide +kernel
theorem dX8_saleOf_56 : decode cX8_saleOf 56 = .ok (.iconst (-1), 1) := by decide +kernel
theorem dX8_saleOf_57 : decode cX8_saleOf 57 = .ok (.ireturn, 1) := by decide +kernel
set_option maxHeartbeats 4000000 in
set_option maxRecDepth 100000 in
theorem m_X8_saleOf (l : Launch) (d : Int) (k : Int) (mem : Mem) (hd : i32 d) (hk : i32 k) (hN2 : 0 ≤ mem 1 2 ∧ mem 1 2 ≤ 40) (hR : ∀ b, i32 (mem 1 b)) : Ret shp l yX8_saleOf cX8_saleOf 5 (some .int) 0 [pR 0, pI d, pI k] mem (fun rv mv => rv = some (pI (placeOf (mem 1) (mem 1 2).toNat d k)) ∧ mem = mv) := by
  refine ret_of (by decide +kernel) (Nat.le_of_ble_eq_true rfl) (fun X hX F G => ?_)
  show Ok shp X 5 0 [(0, pR 0), (1, pI d), (2, pI k)] [] mem
  refine ok_iconst F dX8_saleOf_0 ?_
  refine ok_istore_n (lv' := [(3, pI 0), (0, pR 0), (1, pI d), (2, pI k)]) F dX8_saleOf_1 (by decide) rfl ?_
  refine ok_iconst F dX8_saleOf_2 ?_
  refine ok_istore (lv' := [(4, pI 0), (3, pI 0), (0, pR 0), (1, pI d), (2, pI k)]) F dX8_saleOf_3 (by decide) rfl ?_
  have hL_5 : ∀ (n_5 : Nat) (i : Int) (s : Int), (0 ≤ s ∧ s ≤ mem 1 2 ∧ 0 ≤ i ∧ i ≤ s ∧ saleAt (mem 1) d k (mem 1 2).toNat 0 0 = saleAt (mem 1) d k (mem 1 2 - s).toNat s.toNat i) → (mem 1 2 - s).toNat = n_5 → Ok shp X 5 5 [(0, pR 0), (1, pI d), (2, pI k), (3, pI i), (4, pI s)] [] mem := by
    intro n_5
    induction n_5 using Nat.strongRecOn with
    | _ n_5 ih_5 =>
      intro i s hI_5 hn_5
      refine ok_iload F dX8_saleOf_5 4 rfl ?_
      refine ok_aload_n F dX8_saleOf_7 0 rfl ?_
      refine ok_getr F dX8_saleOf_8 kF_X8_9 sh_0 rfl ?_
      refine ok_iconst F dX8_saleOf_11 ?_
      refine ok_iald (v := mem 1 2) F dX8_saleOf_12 sh_1 (by first | decide | assumption) (by first | omega | exact hR _) (by first | omega | exact hR _) rfl ?_
      refine ok_icmp_ge F 56 dX8_saleOf_13 (by decide) (by first | omega | exact hR _) (by first | omega | exact hR _) (fun c_1 => ?_) (fun c_1 => ?_)
      · refine ok_iconst F dX8_saleOf_56 ?_
        refine ok_iret F G dX8_saleOf_57 ?_
        refine ⟨?_, rfl⟩
        have e : saleAt (mem 1) d k (mem 1 2).toNat 0 0 = -1 := by
          rw [hI_5.2.2.2.2, show (mem 1 2 - s).toNat = 0 by omega]; rfl
        rw [placeOf, if_pos e]
      · refine ok_aload_n F dX8_saleOf_16 0 rfl ?_
        refine ok_getr F dX8_saleOf_17 kF_X8_9 sh_0 rfl ?_
        refine ok_bipush F dX8_saleOf_20 rfl ?_
        refine ok_bipush F dX8_saleOf_22 rfl ?_
        refine ok_iload F dX8_saleOf_24 4 rfl ?_
        refine ok_imul F dX8_saleOf_26 ?_
        refine ok_iadd F dX8_saleOf_27 ?_
        refine ok_iald (v := mem 1 ((59 + (10 * s)).toNat)) F dX8_saleOf_28 sh_1 (by first | decide | assumption) (by first | omega | exact hR _) (by first | omega | exact hR _) rfl ?_
        refine ok_iload_n F dX8_saleOf_29 1 rfl ?_
        refine ok_icmp_ne F 50 dX8_saleOf_30 (by decide) (by first | omega | exact hR _) (by first | omega | exact hR _) (fun c_2 => ?_) (fun c_2 => ?_)
        · refine ok_iinc (lv' := [(4, pI (s + 1)), (0, pR 0), (1, pI d), (2, pI k), (3, pI i)]) F dX8_saleOf_50 4 rfl (by decide) rfl ?_
          refine ok_goto F 5 dX8_saleOf_53 (by decide) ?_
          refine ok_lvp [1, 2, 3, 4, 0] (lv' := [(0, pR 0), (1, pI d), (2, pI k), (3, pI i), (4, pI (s + 1))]) rfl ?_
          refine ih_5 _ ?_ i (s + 1) ?_ rfl
          · omega
          · refine ⟨by omega, by omega, by omega, by omega, ?_⟩
            rw [hI_5.2.2.2.2, show (mem 1 2 - s).toNat = (mem 1 2 - (s + 1)).toNat + 1 by omega]
            first
              | (rw [saleAt, sDay, show 59 + 10 * s.toNat = (59 + (10 * s)).toNat by omega, if_neg (by omega), show (s + 1).toNat = s.toNat + 1 by omega]; done)
              | (rw [saleAt, sDay, show 59 + 10 * s.toNat = (59 + (10 * s)).toNat by omega, if_pos (by omega), if_neg (by omega), show (s + 1).toNat = s.toNat + 1 by omega]; done)
        · refine ok_iload_n F dX8_saleOf_33 3 rfl ?_
          refine ok_iload_n F dX8_saleOf_34 2 rfl ?_
          refine ok_icmp_ne F 47 dX8_saleOf_35 (by decide) (by first | omega | exact hR _) (by first | omega | exact hR _) (fun c_3 => ?_) (fun c_3 => ?_)
          · refine ok_iinc (lv' := [(3, pI (i + 1)), (0, pR 0), (1, pI d), (2, pI k), (4, pI s)]) F dX8_saleOf_47 3 rfl (by decide) rfl ?_
            refine ok_iinc (lv' := [(4, pI (s + 1)), (3, pI (i + 1)), (0, pR 0), (1, pI d), (2, pI k)]) F dX8_saleOf_50 4 rfl (by decide) rfl ?_
            refine ok_goto F 5 dX8_saleOf_53 (by decide) ?_
            refine ok_lvp [2, 3, 4, 1, 0] (lv' := [(0, pR 0), (1, pI d), (2, pI k), (3, pI (i + 1)), (4, pI (s + 1))]) rfl ?_
            refine ih_5 _ ?_ (i + 1) (s + 1) ?_ rfl
            · omega
            · refine ⟨by omega, by omega, by omega, by omega, ?_⟩
              rw [hI_5.2.2.2.2, show (mem 1 2 - s).toNat = (mem 1 2 - (s + 1)).toNat + 1 by omega]
              first
                | (rw [saleAt, sDay, show 59 + 10 * s.toNat = (59 + (10 * s)).toNat by omega, if_neg (by omega), show (s + 1).toNat = s.toNat + 1 by omega]; done)
                | (rw [saleAt, sDay, show 59 + 10 * s.toNat = (59 + (10 * s)).toNat by omega, if_pos (by omega), if_neg (by omega), show (s + 1).toNat = s.toNat + 1 by omega]; done)
          · refine ok_bipush F dX8_saleOf_38 rfl ?_
            refine ok_bipush F dX8_saleOf_40 rfl ?_
            refine ok_iload F dX8_saleOf_42 4 rfl ?_
            refine ok_imul F dX8_saleOf_44 ?_
            refine ok_iadd F dX8_saleOf_45 ?_
            refine ok_iret F G dX8_saleOf_46 ?_
            refine ⟨?_, rfl⟩
            have e : saleAt (mem 1) d k (mem 1 2).toNat 0 0 = s := by
              rw [hI_5.2.2.2.2, show (mem 1 2 - s).toNat = (mem 1 2 - (s + 1)).toNat + 1 by omega, saleAt, sDay, show 59 + 10 * s.toNat = (59 + (10 * s)).toNat by omega, if_pos (by omega), if_pos (by omega)]; omega
            rw [placeOf, e, if_neg (by omega)]
  refine ok_lvp [2, 3, 4, 1, 0] (lv' := [(0, pR 0), (1, pI d), (2, pI k), (3, pI 0), (4, pI 0)]) rfl ?_
  refine hL_5 _ 0 0 ?_ rfl
  exact ⟨by omega, by omega, by omega, by omega, by rw [show mem 1 2 - 0 = mem 1 2 by omega]; rfl⟩
theorem dX8_sale_0 : decode cX8_sale 0 = .ok (.aload_n 0, 1) := by decide +kernel
theorem dX8_sale_1 : decode cX8_sale 1 = .ok (.iload_n 1, 1) := by decide +kernel
theorem dX8_sale_2 : decode cX8_sale 2 = .ok (.invokevirtual 285, 3) := by decide +kernel
theorem dX8_sale_5 : decode cX8_sale 5 = .ok (.ifCond .eq 12, 3) := by decide +kernel
theorem dX8_sale_8 : decode cX8_sale 8 = .ok (.aload_n 0, 1) := by decide +kernel
theorem dX8_sale_9 : decode cX8_sale 9 = .ok (.iload_n 1, 1) := by decide +kernel
theorem dX8_sale_10 : decode cX8_sale 10 = .ok (.iload_n 2, 1) := by decide +kernel
theorem dX8_sale_11 : decode cX8_sale 11 = .ok (.invokevirtual 327, 3) := by decide +kernel
theorem dX8_sale_14 : decode cX8_sale 14 = .ok (.goto 4, 3) := by decide +kernel
theorem dX8_sale_17 : decode cX8_sale 17 = .ok (.iconst (-1), 1) := by decide +kernel
theorem dX8_sale_18 : decode cX8_sale 18 = .ok (.istore 4, 2) := by decide +kernel
theorem dX8_sale_20 : decode cX8_sale 20 = .ok (.iload 4, 2) := by decide +kernel
theorem dX8_sale_22 : decode cX8_sale 22 = .ok (.iconst (-1), 1) := by decide +kernel
theorem dX8_sale_23 : decode cX8_sale 23 = .ok (.if_icmp .ne 5, 3) := by decide +kernel
theorem dX8_sale_26 : decode cX8_sale 26 = .ok (.iconst (-1), 1) := by decide +kernel
theorem dX8_sale_27 : decode cX8_sale 27 = .ok (.ireturn, 1) := by decide +kernel
theorem dX8_sale_28 : decode cX8_sale 28 = .ok (.iconst 0, 1) := by decide +kernel
theorem dX8_sale_29 : decode cX8_sale 29 = .ok (.istore 5, 2) := by decide +kernel
theorem dX8_sale_31 : decode cX8_sale 31 = .ok (.iconst 0, 1) := by decide +kernel
theorem dX8_sale_32 : decode cX8_sale 32 = .ok (.istore 6, 2) := by decide +kernel
theorem dX8_sale_34 : decode cX8_sale 34 = .ok (.iconst 0, 1) := by decide +kernel
theorem dX8_sale_35 : decode cX8_sale 35 = .ok (.istore 7, 2) := by decide +kernel
theorem dX8_sale_37 : decode cX8_sale 37 = .ok (.iload 7, 2) := by decide +kernel
theorem dX8_sale_39 : decode cX8_sale 39 = .ok (.aload_n 0, 1) := by decide +kernel
theorem dX8_sale_40 : decode cX8_sale 40 = .ok (.getfield 9, 3) := by decide +kernel
theorem dX8_sale_43 : decode cX8_sale 43 = .ok (.iconst 0, 1) := by decide +kernel
theorem dX8_sale_44 : decode cX8_sale 44 = .ok (.iaload, 1) := by decide +kernel
theorem dX8_sale_45 : decode cX8_sale 45 = .ok (.if_icmp .ge 50, 3) := by decide +kernel
theorem dX8_sale_48 : decode cX8_sale 48 = .ok (.iload 6, 2) := by decide +kernel
theorem dX8_sale_50 : decode cX8_sale 50 = .ok (.aload_n 0, 1) := by decide +kernel
theorem dX8_sale_51 : decode cX8_sale 51 = .ok (.getfield 9, 3) := by decide +kernel
theorem dX8_sale_54 : decode cX8_sale 54 = .ok (.iload 4, 2) := by decide +kernel
theorem dX8_sale_56 : decode cX8_sale 56 = .ok (.iconst 2, 1) := by decide +kernel
theorem dX8_sale_57 : decode cX8_sale 57 = .ok (.iadd, 1) := by decide +kernel
theorem dX8_sale_58 : decode cX8_sale 58 = .ok (.iload 7, 2) := by decide +kernel
theorem dX8_sale_60 : decode cX8_sale 60 = .ok (.iadd, 1) := by decide +kernel
theorem dX8_sale_61 : decode cX8_sale 61 = .ok (.iaload, 1) := by decide +kernel
theorem dX8_sale_62 : decode cX8_sale 62 = .ok (.iadd, 1) := by decide +kernel
theorem dX8_sale_63 : decode cX8_sale 63 = .ok (.istore 6, 2) := by decide +kernel
theorem dX8_sale_65 : decode cX8_sale 65 = .ok (.iload 5, 2) := by decide +kernel
theorem dX8_sale_67 : decode cX8_sale 67 = .ok (.aload_n 0, 1) := by decide +kernel
theorem dX8_sale_68 : decode cX8_sale 68 = .ok (.getfield 9, 3) := by decide +kernel
theorem dX8_sale_71 : decode cX8_sale 71 = .ok (.iload 4, 2) := by decide +kernel
theorem dX8_sale_73 : decode cX8_sale 73 = .ok (.iconst 2, 1) := by decide +kernel
theorem dX8_sale_74 : decode cX8_sale 74 = .ok (.iadd, 1) := by decide +kernel
theorem dX8_sale_75 : decode cX8_sale 75 = .ok (.iload 7, 2) := by decide +kernel
theorem dX8_sale_77 : decode cX8_sale 77 = .ok (.iadd, 1) := by decide +kernel
theorem dX8_sale_78 : decode cX8_sale 78 = .ok (.iaload, 1) := by decide +kernel
theorem dX8_sale_79 : decode cX8_sale 79 = .ok (.aload_n 0, 1) := by decide +kernel
theorem dX8_sale_80 : decode cX8_sale 80 = .ok (.iload 7, 2) := by decide +kernel
theorem dX8_sale_82 : decode cX8_sale 82 = .ok (.invokevirtual 191, 3) := by decide +kernel
theorem dX8_sale_85 : decode cX8_sale 85 = .ok (.imul, 1) := by decide +kernel
theorem dX8_sale_86 : decode cX8_sale 86 = .ok (.iadd, 1) := by decide +kernel
theorem dX8_sale_87 : decode cX8_sale 87 = .ok (.istore 5, 2) := by decide +kernel
theorem dX8_sale_89 : decode cX8_sale 89 = .ok (.iinc 7 1, 3) := by decide +kernel
theorem dX8_sale_92 : decode cX8_sale 92 = .ok (.goto (-55), 3) := by decide +kernel
theorem dX8_sale_95 : decode cX8_sale 95 = .ok (.iload_n 3, 1) := by decide +kernel
theorem dX8_sale_96 : decode cX8_sale 96 = .ok (.tableswitch 44 0 2 #[28, 38, 41], 28) := by decide +kernel
theorem dX8_sale_124 : decode cX8_sale 124 = .ok (.aload_n 0, 1) := by decide +kernel
theorem dX8_sale_125 : decode cX8_sale 125 = .ok (.getfield 9, 3) := by decide +kernel
theorem dX8_sale_128 : decode cX8_sale 128 = .ok (.iload 4, 2) := by decide +kernel
theorem dX8_sale_130 : decode cX8_sale 130 = .ok (.iconst 1, 1) := by decide +kernel
theorem dX8_sale_131 : decode cX8_sale 131 = .ok (.iadd, 1) := by decide +kernel
theorem dX8_sale_132 : decode cX8_sale 132 = .ok (.iaload, 1) := by decide +kernel
theorem dX8_sale_133 : decode cX8_sale 133 = .ok (.ireturn, 1) := by decide +kernel
theorem dX8_sale_134 : decode cX8_sale 134 = .ok (.iload 5, 2) := by decide +kernel
theorem dX8_sale_136 : decode cX8_sale 136 = .ok (.ireturn, 1) := by decide +kernel
theorem dX8_sale_137 : decode cX8_sale 137 = .ok (.iload 6, 2) := by decide +kernel
theorem dX8_sale_139 : decode cX8_sale 139 = .ok (.ireturn, 1) := by decide +kernel
theorem dX8_sale_140 : decode cX8_sale 140 = .ok (.iload_n 3, 1) := by decide +kernel
theorem dX8_sale_141 : decode cX8_sale 141 = .ok (.i2l, 1) := by decide +kernel
theorem dX8_sale_142 : decode cX8_sale 142 = .ok (.ldc2_w 300, 3) := by decide +kernel
theorem dX8_sale_145 : decode cX8_sale 145 = .ok (.bipush 9, 2) := by decide +kernel
theorem dX8_sale_147 : decode cX8_sale 147 = .ok (.aload_n 0, 1) := by decide +kernel
theorem dX8_sale_148 : decode cX8_sale 148 = .ok (.getfield 9, 3) := by decide +kernel
theorem dX8_sale_151 : decode cX8_sale 151 = .ok (.iconst 0, 1) := by decide +kernel
theorem dX8_sale_152 : decode cX8_sale 152 = .ok (.iaload, 1) := by decide +kernel
theorem dX8_sale_153 : decode cX8_sale 153 = .ok (.iadd, 1) := by decide +kernel
theorem dX8_sale_154 : decode cX8_sale 154 = .ok (.i2l, 1) := by decide +kernel
theorem dX8_sale_155 : decode cX8_sale 155 = .ok (.invokestatic 100, 3) := by decide +kernel
theorem dX8_sale_158 : decode cX8_sale 158 = .ok (.ifCond .eq 18, 3) := by decide +kernel
theorem dX8_sale_161 : decode cX8_sale 161 = .ok (.aload_n 0, 1) := by decide +kernel
theorem dX8_sale_162 : decode cX8_sale 162 = .ok (.getfield 9, 3) := by decide +kernel
theorem dX8_sale_165 : decode cX8_sale 165 = .ok (.iload 4, 2) := by decide +kernel
theorem dX8_sale_167 : decode cX8_sale 167 = .ok (.iload_n 3, 1) := by decide +kernel
theorem dX8_sale_168 : decode cX8_sale 168 = .ok (.iadd, 1) := by decide +kernel
theorem dX8_sale_169 : decode cX8_sale 169 = .ok (.bipush 8, 2) := by decide +kernel
theorem dX8_sale_171 : decode cX8_sale 171 = .ok (.isub, 1) := by decide +kernel
theorem dX8_sale_172 : decode cX8_sale 172 = .ok (.iaload, 1) := by decide +kernel
theorem dX8_sale_173 : decode cX8_sale 173 = .ok (.goto 4, 3) := by decide +kernel
theorem dX8_sale_176 : decode cX8_sale 176 = .ok (.iconst (-1), 1) := by decide +kernel
theorem dX8_sale_177 : decode cX8_sale 177 = .ok (.ireturn, 1) := by decide +kernel
set_option maxHeartbeats 4000000 in
set_option maxRecDepth 100000 in
theorem m_X8_sale (l : Launch) (d : Int) (k : Int) (w : Int) (mem : Mem) (hd : i32 d) (hk : i32 k) (hw : i32 w) (hN : 0 ≤ mem 1 0 ∧ mem 1 0 ≤ 8) (hN1 : 0 ≤ mem 1 1 ∧ mem 1 1 ≤ 5) (hN2 : 0 ≤ mem 1 2 ∧ mem 1 2 ≤ 40) (hR : ∀ b, i32 (mem 1 b)) : Ret shp l yX8_sale cX8_sale 8 (some .int) 2 [pR 0, pI d, pI k, pI w] mem (fun rv mv => rv = some (pI (let p := if 0 ≤ d ∧ d < mem 1 1 then placeOf (mem 1) (mem 1 2).toNat d k else -1; if p = -1 then -1 else if w = 0 then mem 1 (p + 1).toNat else if w = 1 then sumN (fun i => mem 1 (p.toNat + 2 + i) * mem 1 (3 + i)) (mem 1 0).toNat else if w = 2 then sumN (fun i => mem 1 (p.toNat + 2 + i)) (mem 1 0).toNat else if 10 ≤ w ∧ w ≤ 9 + mem 1 0 then mem 1 (p + w - 8).toNat else -1)) ∧ mem = mv) := by
  refine ret_of (by decide +kernel) (Nat.le_of_ble_eq_true rfl) (fun X hX F G => ?_)
  show Ok shp X 8 0 [(0, pR 0), (1, pI d), (2, pI k), (3, pI w)] [] mem
  refine ok_aload_n F dX8_sale_0 0 rfl ?_
  refine ok_iload_n F dX8_sale_1 1 rfl ?_
  refine ok_callv F [pI d] dX8_sale_2 kM_X8_isDay kI_X8_isDay kV_X8_isDay kL_X8_285 (ci := 8) rfl sh_0 rfl (by decide) (Nat.le_of_ble_eq_true rfl) rfl (m_X8_isDay _ d mem (by omega) (by omega)) ?_
  rintro _ _ ⟨rfl, rfl⟩
  refine ok_if_eq F 17 dX8_sale_5 (by decide) (by first | omega | exact hR _) (fun c_1 => ?_) (fun c_1 => ?_)
  · refine ok_iconst F dX8_sale_17 ?_
    refine ok_istore (lv' := [(4, pI (-1)), (0, pR 0), (1, pI d), (2, pI k), (3, pI w)]) F dX8_sale_18 (by decide) rfl ?_
    have hpl : placeOf (mem 1) (mem 1 2).toNat d k = -1 ∨ 59 ≤ placeOf (mem 1) (mem 1 2).toNat d k ∧ placeOf (mem 1) (mem 1 2).toNat d k ≤ 449 := by
      rcases saleAt_bd (mem 1) d k (mem 1 2).toNat 0 0 with e | ⟨t, e1, e2, e3⟩
      · left; unfold placeOf; rw [if_pos e]
      · right; unfold placeOf; rw [e1, if_neg (by omega)]; omega
    refine ok_iload F dX8_sale_20 0 rfl ?_
    refine ok_iconst F dX8_sale_22 ?_
    refine ok_icmp_ne F 28 dX8_sale_23 (by decide) (by first | omega | exact hR _) (by first | omega | exact hR _) (fun c_2 => ?_) (fun c_2 => ?_)
    · exfalso; omega
    · refine ok_iconst F dX8_sale_26 ?_
      refine ok_iret F G dX8_sale_27 ?_
      refine ⟨?_, rfl⟩
      first
        | (rw [if_neg (by omega : ¬ (0 ≤ d ∧ d < mem 1 1)), if_pos rfl]; done)
        | (rw [if_pos (by omega : 0 ≤ d ∧ d < mem 1 1), if_pos (by omega)]; done)
  · refine ok_aload_n F dX8_sale_8 0 rfl ?_
    refine ok_iload_n F dX8_sale_9 1 rfl ?_
    refine ok_iload_n F dX8_sale_10 2 rfl ?_
    refine ok_callv F [pI d, pI k] dX8_sale_11 kM_X8_saleOf kI_X8_saleOf kV_X8_saleOf kL_X8_327 (ci := 8) rfl sh_0 rfl (by decide) (Nat.le_of_ble_eq_true rfl) rfl (m_X8_saleOf _ d k mem (by omega) (by omega) (by omega) (by omega)) ?_
    rintro _ _ ⟨rfl, rfl⟩
    refine ok_goto F 18 dX8_sale_14 (by decide) ?_
    refine ok_istore (lv' := [(4, pI (placeOf (mem 1) (mem 1 2).toNat d k)), (0, pR 0), (1, pI d), (2, pI k), (3, pI w)]) F dX8_sale_18 (by decide) rfl ?_
    have hpl : placeOf (mem 1) (mem 1 2).toNat d k = -1 ∨ 59 ≤ placeOf (mem 1) (mem 1 2).toNat d k ∧ placeOf (mem 1) (mem 1 2).toNat d k ≤ 449 := by
      rcases saleAt_bd (mem 1) d k (mem 1 2).toNat 0 0 with e | ⟨t, e1, e2, e3⟩
      · left; unfold placeOf; rw [if_pos e]
      · right; unfold placeOf; rw [e1, if_neg (by omega)]; omega
    refine ok_iload F dX8_sale_20 0 rfl ?_
    refine ok_iconst F dX8_sale_22 ?_
    refine ok_icmp_ne F 28 dX8_sale_23 (by decide) (by first | omega | exact hR _) (by first | omega | exact hR _) (fun c_3 => ?_) (fun c_3 => ?_)
    · refine ok_iconst F dX8_sale_28 ?_
      refine ok_istore (lv' := [(5, pI 0), (4, pI (placeOf (mem 1) (mem 1 2).toNat d k)), (0, pR 0), (1, pI d), (2, pI k), (3, pI w)]) F dX8_sale_29 (by decide) rfl ?_
      refine ok_iconst F dX8_sale_31 ?_
      refine ok_istore (lv' := [(6, pI 0), (5, pI 0), (4, pI (placeOf (mem 1) (mem 1 2).toNat d k)), (0, pR 0), (1, pI d), (2, pI k), (3, pI w)]) F dX8_sale_32 (by decide) rfl ?_
      refine ok_iconst F dX8_sale_34 ?_
      refine ok_istore (lv' := [(7, pI 0), (6, pI 0), (5, pI 0), (4, pI (placeOf (mem 1) (mem 1 2).toNat d k)), (0, pR 0), (1, pI d), (2, pI k), (3, pI w)]) F dX8_sale_35 (by decide) rfl ?_
      have hL_37 : ∀ (n_37 : Nat) (a : Int) (b : Int) (i : Int), (0 ≤ i ∧ i ≤ mem 1 0 ∧ a = sumN (fun i => mem 1 ((placeOf (mem 1) (mem 1 2).toNat d k).toNat + 2 + i) * mem 1 (3 + i)) i.toNat ∧ b = sumN (fun i => mem 1 ((placeOf (mem 1) (mem 1 2).toNat d k).toNat + 2 + i)) i.toNat) → (mem 1 0 - i).toNat = n_37 → Ok shp X 8 37 [(0, pR 0), (1, pI d), (2, pI k), (3, pI w), (4, pI (placeOf (mem 1) (mem 1 2).toNat d k)), (5, pI a), (6, pI b), (7, pI i)] [] mem := by
        intro n_37
        induction n_37 using Nat.strongRecOn with
        | _ n_37 ih_37 =>
          intro a b i hI_37 hn_37
          refine ok_iload F dX8_sale_37 7 rfl ?_
          refine ok_aload_n F dX8_sale_39 0 rfl ?_
          refine ok_getr F dX8_sale_40 kF_X8_9 sh_0 rfl ?_
          refine ok_iconst F dX8_sale_43 ?_
          refine ok_iald (v := mem 1 0) F dX8_sale_44 sh_1 (by first | decide | assumption) (by first | omega | exact hR _) (by first | omega | exact hR _) rfl ?_
          refine ok_icmp_ge F 95 dX8_sale_45 (by decide) (by first | omega | exact hR _) (by first | omega | exact hR _) (fun c_4 => ?_) (fun c_4 => ?_)
          · refine ok_iload_n F dX8_sale_95 3 rfl ?_
            by_cases c_5o : w < 0 ∨ 2 < w
            · refine ok_tabOut F 140 dX8_sale_96 (by first | omega | exact hR _) c_5o (by decide) ?_
              refine ok_iload_n F dX8_sale_140 3 rfl ?_
              refine ok_i2l F dX8_sale_141 (by first | omega | exact hR _) ?_
              refine ok_ldc2 (n := 10) F dX8_sale_142 kJ_X8_300 rfl ?_
              refine ok_bipush F dX8_sale_145 rfl ?_
              refine ok_aload_n F dX8_sale_147 0 rfl ?_
              refine ok_getr F dX8_sale_148 kF_X8_9 sh_0 rfl ?_
              refine ok_iconst F dX8_sale_151 ?_
              refine ok_iald (v := mem 1 0) F dX8_sale_152 sh_1 (by first | decide | assumption) (by first | omega | exact hR _) (by first | omega | exact hR _) rfl ?_
              refine ok_iadd F dX8_sale_153 ?_
              refine ok_i2l F dX8_sale_154 (by first | omega | exact hR _) ?_
              refine ok_calls F [pL w, pL 10, pL (9 + (mem 1 0))] dX8_sale_155 kM_X8_in kS_X8_in kL_X8_100 rfl (by decide) (Nat.le_of_ble_eq_true rfl) rfl (m_X8_in _ w 10 (9 + (mem 1 0)) mem (by omega) (by omega) (by omega)) ?_
              rintro _ _ ⟨rfl, rfl⟩
              refine ok_if_eq F 176 dX8_sale_158 (by decide) (by first | omega | exact hR _) (fun c_6 => ?_) (fun c_6 => ?_)
              · refine ok_iconst F dX8_sale_176 ?_
                refine ok_iret F G dX8_sale_177 ?_
                refine ⟨?_, rfl⟩
                rw [if_pos (by omega : 0 ≤ d ∧ d < mem 1 1), if_neg (by omega)]
                rw [if_neg (by omega), if_neg (by omega), if_neg (by omega)]
                first | (rw [if_pos (by omega)]; done) | (rw [if_neg (by omega)]; done)
              · refine ok_aload_n F dX8_sale_161 0 rfl ?_
                refine ok_getr F dX8_sale_162 kF_X8_9 sh_0 rfl ?_
                refine ok_iload F dX8_sale_165 4 rfl ?_
                refine ok_iload_n F dX8_sale_167 3 rfl ?_
                refine ok_iadd F dX8_sale_168 ?_
                refine ok_bipush F dX8_sale_169 rfl ?_
                refine ok_isub F dX8_sale_171 ?_
                refine ok_iald (v := mem 1 ((((placeOf (mem 1) (mem 1 2).toNat d k) + w) - 8).toNat)) F dX8_sale_172 sh_1 (by first | decide | assumption) (by first | omega | exact hR _) (by first | omega | exact hR _) rfl ?_
                refine ok_goto F 177 dX8_sale_173 (by decide) ?_
                refine ok_iret F G dX8_sale_177 ?_
                refine ⟨?_, rfl⟩
                rw [if_pos (by omega : 0 ≤ d ∧ d < mem 1 1), if_neg (by omega)]
                rw [if_neg (by omega), if_neg (by omega), if_neg (by omega)]
                first | (rw [if_pos (by omega)]; done) | (rw [if_neg (by omega)]; done)
            by_cases c_5_0 : w = 0
            · refine ok_tabIn F 124 dX8_sale_96 (by first | omega | exact hR _) (by omega) (by omega) (off := 28) (by rw [c_5_0]; rfl) (by decide) ?_
              refine ok_aload_n F dX8_sale_124 0 rfl ?_
              refine ok_getr F dX8_sale_125 kF_X8_9 sh_0 rfl ?_
              refine ok_iload F dX8_sale_128 4 rfl ?_
              refine ok_iconst F dX8_sale_130 ?_
              refine ok_iadd F dX8_sale_131 ?_
              refine ok_iald (v := mem 1 (((placeOf (mem 1) (mem 1 2).toNat d k) + 1).toNat)) F dX8_sale_132 sh_1 (by first | decide | assumption) (by first | omega | exact hR _) (by first | omega | exact hR _) rfl ?_
              refine ok_iret F G dX8_sale_133 ?_
              refine ⟨?_, rfl⟩
              rw [if_pos (by omega : 0 ≤ d ∧ d < mem 1 1), if_neg (by omega)]
              rw [if_pos (by omega)]
            by_cases c_5_1 : w = 1
            · refine ok_tabIn F 134 dX8_sale_96 (by first | omega | exact hR _) (by omega) (by omega) (off := 38) (by rw [c_5_1]; rfl) (by decide) ?_
              refine ok_iload F dX8_sale_134 5 rfl ?_
              refine ok_iret F G dX8_sale_136 ?_
              refine ⟨?_, rfl⟩
              rw [if_pos (by omega : 0 ≤ d ∧ d < mem 1 1), if_neg (by omega)]
              rw [if_neg (by omega), if_pos (by omega), hI_37.2.2.1, show i = mem 1 0 by omega]
            by_cases c_5_2 : w = 2
            · refine ok_tabIn F 137 dX8_sale_96 (by first | omega | exact hR _) (by omega) (by omega) (off := 41) (by rw [c_5_2]; rfl) (by decide) ?_
              refine ok_iload F dX8_sale_137 6 rfl ?_
              refine ok_iret F G dX8_sale_139 ?_
              refine ⟨?_, rfl⟩
              rw [if_pos (by omega : 0 ≤ d ∧ d < mem 1 1), if_neg (by omega)]
              rw [if_neg (by omega), if_neg (by omega), if_pos (by omega), hI_37.2.2.2, show i = mem 1 0 by omega]
            exfalso; omega
          · refine ok_iload F dX8_sale_48 6 rfl ?_
            refine ok_aload_n F dX8_sale_50 0 rfl ?_
            refine ok_getr F dX8_sale_51 kF_X8_9 sh_0 rfl ?_
            refine ok_iload F dX8_sale_54 4 rfl ?_
            refine ok_iconst F dX8_sale_56 ?_
            refine ok_iadd F dX8_sale_57 ?_
            refine ok_iload F dX8_sale_58 7 rfl ?_
            refine ok_iadd F dX8_sale_60 ?_
            refine ok_iald (v := mem 1 ((((placeOf (mem 1) (mem 1 2).toNat d k) + 2) + i).toNat)) F dX8_sale_61 sh_1 (by first | decide | assumption) (by first | omega | exact hR _) (by first | omega | exact hR _) rfl ?_
            refine ok_iadd F dX8_sale_62 ?_
            refine ok_istore (lv' := [(6, pI (b + (mem 1 ((((placeOf (mem 1) (mem 1 2).toNat d k) + 2) + i).toNat)))), (0, pR 0), (1, pI d), (2, pI k), (3, pI w), (4, pI (placeOf (mem 1) (mem 1 2).toNat d k)), (5, pI a), (7, pI i)]) F dX8_sale_63 (by decide) rfl ?_
            refine ok_iload F dX8_sale_65 6 rfl ?_
            refine ok_aload_n F dX8_sale_67 1 rfl ?_
            refine ok_getr F dX8_sale_68 kF_X8_9 sh_0 rfl ?_
            refine ok_iload F dX8_sale_71 5 rfl ?_
            refine ok_iconst F dX8_sale_73 ?_
            refine ok_iadd F dX8_sale_74 ?_
            refine ok_iload F dX8_sale_75 7 rfl ?_
            refine ok_iadd F dX8_sale_77 ?_
            refine ok_iald (v := mem 1 ((((placeOf (mem 1) (mem 1 2).toNat d k) + 2) + i).toNat)) F dX8_sale_78 sh_1 (by first | decide | assumption) (by first | omega | exact hR _) (by first | omega | exact hR _) rfl ?_
            refine ok_aload_n F dX8_sale_79 1 rfl ?_
            refine ok_iload F dX8_sale_80 7 rfl ?_
            refine ok_callv F [pI i] dX8_sale_82 kM_X8_value kI_X8_value kV_X8_value kL_X8_191 (ci := 8) rfl sh_0 rfl (by decide) (Nat.le_of_ble_eq_true rfl) rfl (m_X8_value _ i mem (by omega)) ?_
            rintro _ _ ⟨rfl, rfl⟩
            refine ok_imul F dX8_sale_85 ?_
            refine ok_iadd F dX8_sale_86 ?_
            refine ok_istore (lv' := [(5, pI (a + ((mem 1 ((((placeOf (mem 1) (mem 1 2).toNat d k) + 2) + i).toNat)) * (mem 1 (3 + i).toNat)))), (6, pI (b + (mem 1 ((((placeOf (mem 1) (mem 1 2).toNat d k) + 2) + i).toNat)))), (0, pR 0), (1, pI d), (2, pI k), (3, pI w), (4, pI (placeOf (mem 1) (mem 1 2).toNat d k)), (7, pI i)]) F dX8_sale_87 (by decide) rfl ?_
            refine ok_iinc (lv' := [(7, pI (i + 1)), (5, pI (a + ((mem 1 ((((placeOf (mem 1) (mem 1 2).toNat d k) + 2) + i).toNat)) * (mem 1 (3 + i).toNat)))), (6, pI (b + (mem 1 ((((placeOf (mem 1) (mem 1 2).toNat d k) + 2) + i).toNat)))), (0, pR 0), (1, pI d), (2, pI k), (3, pI w), (4, pI (placeOf (mem 1) (mem 1 2).toNat d k))]) F dX8_sale_89 7 rfl (by decide) rfl ?_
            refine ok_goto F 37 dX8_sale_92 (by decide) ?_
            refine ok_lvp [3, 4, 5, 6, 7, 1, 2, 0] (lv' := [(0, pR 0), (1, pI d), (2, pI k), (3, pI w), (4, pI (placeOf (mem 1) (mem 1 2).toNat d k)), (5, pI (a + ((mem 1 ((((placeOf (mem 1) (mem 1 2).toNat d k) + 2) + i).toNat)) * (mem 1 (3 + i).toNat)))), (6, pI (b + (mem 1 ((((placeOf (mem 1) (mem 1 2).toNat d k) + 2) + i).toNat)))), (7, pI (i + 1))]) rfl ?_
            refine ih_37 _ ?_ (a + ((mem 1 ((((placeOf (mem 1) (mem 1 2).toNat d k) + 2) + i).toNat)) * (mem 1 (3 + i).toNat))) (b + (mem 1 ((((placeOf (mem 1) (mem 1 2).toNat d k) + 2) + i).toNat))) (i + 1) ?_ rfl
            · omega
            · refine ⟨by omega, by omega, ?_, ?_⟩
              · rw [sumN_s _ hI_37.1, ← hI_37.2.2.1, show (placeOf (mem 1) (mem 1 2).toNat d k).toNat + 2 + i.toNat = (placeOf (mem 1) (mem 1 2).toNat d k + 2 + i).toNat by omega, show 3 + i.toNat = (3 + i).toNat by omega]
              · rw [sumN_s _ hI_37.1, ← hI_37.2.2.2, show (placeOf (mem 1) (mem 1 2).toNat d k).toNat + 2 + i.toNat = (placeOf (mem 1) (mem 1 2).toNat d k + 2 + i).toNat by omega]
      refine ok_lvp [4, 5, 6, 7, 3, 2, 1, 0] (lv' := [(0, pR 0), (1, pI d), (2, pI k), (3, pI w), (4, pI (placeOf (mem 1) (mem 1 2).toNat d k)), (5, pI 0), (6, pI 0), (7, pI 0)]) rfl ?_
      refine hL_37 _ 0 0 0 ?_ rfl
      exact ⟨by omega, by omega, rfl, rfl⟩
    · refine ok_iconst F dX8_sale_26 ?_
      refine ok_iret F G dX8_sale_27 ?_
      refine ⟨?_, rfl⟩
      first
        | (rw [if_neg (by omega : ¬ (0 ≤ d ∧ d < mem 1 1)), if_pos rfl]; done)
        | (rw [if_pos (by omega : 0 ≤ d ∧ d < mem 1 1), if_pos (by omega)]; done)
theorem dX8_count_0 : decode cX8_count 0 = .ok (.iload_n 1, 1) := by decide +kernel
theorem dX8_count_1 : decode cX8_count 1 = .ok (.tableswitch 134 0 9 #[55, 62, 69, 76, 83, 90, 95, 100, 122, 128], 55) := by decide +kernel
theorem dX8_count_56 : decode cX8_count 56 = .ok (.aload_n 0, 1) := by decide +kernel
theorem dX8_count_57 : decode cX8_count 57 = .ok (.getfield 9, 3) := by decide +kernel
theorem dX8_count_60 : decode cX8_count 60 = .ok (.iconst 0, 1) := by decide +kernel
theorem dX8_count_61 : decode cX8_count 61 = .ok (.iaload, 1) := by decide +kernel
theorem dX8_count_62 : decode cX8_count 62 = .ok (.ireturn, 1) := by decide +kernel
theorem dX8_count_63 : decode cX8_count 63 = .ok (.aload_n 0, 1) := by decide +kernel
theorem dX8_count_64 : decode cX8_count 64 = .ok (.getfield 9, 3) := by decide +kernel
theorem dX8_count_67 : decode cX8_count 67 = .ok (.iconst 1, 1) := by decide +kernel
theorem dX8_count_68 : decode cX8_count 68 = .ok (.iaload, 1) := by decide +kernel
theorem dX8_count_69 : decode cX8_count 69 = .ok (.ireturn, 1) := by decide +kernel
theorem dX8_count_70 : decode cX8_count 70 = .ok (.aload_n 0, 1) := by decide +kernel
theorem dX8_count_71 : decode cX8_count 71 = .ok (.getfield 9, 3) := by decide +kernel
theorem dX8_count_74 : decode cX8_count 74 = .ok (.iconst 2, 1) := by decide +kernel
theorem dX8_count_75 : decode cX8_count 75 = .ok (.iaload, 1) := by decide +kernel
theorem dX8_count_76 : decode cX8_count 76 = .ok (.ireturn, 1) := by decide +kernel
theorem dX8_count_77 : decode cX8_count 77 = .ok (.aload_n 0, 1) := by decide +kernel
theorem dX8_count_78 : decode cX8_count 78 = .ok (.bipush 11, 2) := by decide +kernel
theorem dX8_count_80 : decode cX8_count 80 = .ok (.invokevirtual 227, 3) := by decide +kernel
theorem dX8_count_83 : decode cX8_count 83 = .ok (.ireturn, 1) := by decide +kernel
theorem dX8_count_84 : decode cX8_count 84 = .ok (.aload_n 0, 1) := by decide +kernel
theorem dX8_count_85 : decode cX8_count 85 = .ok (.bipush 43, 2) := by decide +kernel
theorem dX8_count_87 : decode cX8_count 87 = .ok (.invokevirtual 227, 3) := by decide +kernel
theorem dX8_count_90 : decode cX8_count 90 = .ok (.ireturn, 1) := by decide +kernel
theorem dX8_count_91 : decode cX8_count 91 = .ok (.aload_n 0, 1) := by decide +kernel
theorem dX8_count_92 : decode cX8_count 92 = .ok (.getfield 188, 3) := by decide +kernel
theorem dX8_count_95 : decode cX8_count 95 = .ok (.ireturn, 1) := by decide +kernel
theorem dX8_count_96 : decode cX8_count 96 = .ok (.aload_n 0, 1) := by decide +kernel
theorem dX8_count_97 : decode cX8_count 97 = .ok (.getfield 71, 3) := by decide +kernel
theorem dX8_count_100 : decode cX8_count 100 = .ok (.ireturn, 1) := by decide +kernel
theorem dX8_count_101 : decode cX8_count 101 = .ok (.aload_n 0, 1) := by decide +kernel
theorem dX8_count_102 : decode cX8_count 102 = .ok (.getfield 22, 3) := by decide +kernel
theorem dX8_count_105 : decode cX8_count 105 = .ok (.iconst 0, 1) := by decide +kernel
theorem dX8_count_106 : decode cX8_count 106 = .ok (.baload, 1) := by decide +kernel
theorem dX8_count_107 : decode cX8_count 107 = .ok (.invokestatic 137, 3) := by decide +kernel
theorem dX8_count_110 : decode cX8_count 110 = .ok (.aload_n 0, 1) := by decide +kernel
theorem dX8_count_111 : decode cX8_count 111 = .ok (.getfield 22, 3) := by decide +kernel
theorem dX8_count_114 : decode cX8_count 114 = .ok (.iconst 1, 1) := by decide +kernel
theorem dX8_count_115 : decode cX8_count 115 = .ok (.baload, 1) := by decide +kernel
theorem dX8_count_116 : decode cX8_count 116 = .ok (.invokestatic 137, 3) := by decide +kernel
theorem dX8_count_119 : decode cX8_count 119 = .ok (.iconst 1, 1) := by decide +kernel
theorem dX8_count_120 : decode cX8_count 120 = .ok (.ishl, 1) := by decide +kernel
theorem dX8_count_121 : decode cX8_count 121 = .ok (.ior, 1) := by decide +kernel
theorem dX8_count_122 : decode cX8_count 122 = .ok (.ireturn, 1) := by decide +kernel
theorem dX8_count_123 : decode cX8_count 123 = .ok (.aload_n 0, 1) := by decide +kernel
theorem dX8_count_124 : decode cX8_count 124 = .ok (.iconst 1, 1) := by decide +kernel
theorem dX8_count_125 : decode cX8_count 125 = .ok (.invokevirtual 393, 3) := by decide +kernel
theorem dX8_count_128 : decode cX8_count 128 = .ok (.ireturn, 1) := by decide +kernel
theorem dX8_count_129 : decode cX8_count 129 = .ok (.aload_n 0, 1) := by decide +kernel
theorem dX8_count_130 : decode cX8_count 130 = .ok (.iconst 0, 1) := by decide +kernel
theorem dX8_count_131 : decode cX8_count 131 = .ok (.invokevirtual 393, 3) := by decide +kernel
theorem dX8_count_134 : decode cX8_count 134 = .ok (.ireturn, 1) := by decide +kernel
theorem dX8_count_135 : decode cX8_count 135 = .ok (.iconst (-1), 1) := by decide +kernel
theorem dX8_count_136 : decode cX8_count 136 = .ok (.ireturn, 1) := by decide +kernel
set_option maxHeartbeats 4000000 in
set_option maxRecDepth 100000 in
theorem m_X8_count (l : Launch) (w : Int) (mem : Mem) (hw : i32 w) (hN : 0 ≤ mem 1 0 ∧ mem 1 0 ≤ 8) (hTl : ∀ k : Nat, k < 8 → 0 ≤ mem 1 (11 + k) ∧ mem 1 (11 + k) ≤ 99) (hLm : ∀ k : Nat, k < 8 → 0 ≤ mem 1 (27 + k) ∧ mem 1 (27 + k) ≤ 99) (h50 : mem 5 0 = 0 ∨ mem 5 0 = 1) (h51 : mem 5 1 = 0 ∨ mem 5 1 = 1) : Ret shp l yX8_count cX8_count 2 (some .int) 2 [pR 0, pI w] mem (fun rv mv => rv = some (pI (if w = 0 then mem 1 0 else if w = 1 then mem 1 1 else if w = 2 then mem 1 2 else if w = 3 then sumN (fun k => mem 1 (11 + k)) (mem 1 0).toNat else if w = 4 then sumN (fun k => mem 1 (43 + k)) (mem 1 0).toNat else if w = 5 then mem 0 5 else if w = 6 then mem 0 7 else if w = 7 then ior (if mem 5 0 = 0 then 0 else 1) (ishl (if mem 5 1 = 0 then 0 else 1) 1) else if w = 8 then bitsN (fun k => decide (mem 1 (27 + k) < mem 1 (11 + k))) (mem 1 0).toNat else if w = 9 then bitsN (fun k => decide (mem 1 (11 + k) < mem 1 (27 + k))) (mem 1 0).toNat else -1)) ∧ mem = mv) := by
  refine ret_of (by decide +kernel) (Nat.le_of_ble_eq_true rfl) (fun X hX F G => ?_)
  show Ok shp X 2 0 [(0, pR 0), (1, pI w)] [] mem
  refine ok_iload_n F dX8_count_0 1 rfl ?_
  by_cases c_1o : w < 0 ∨ 9 < w
  · refine ok_tabOut F 135 dX8_count_1 (by omega) c_1o (by decide) ?_
    refine ok_iconst F dX8_count_135 ?_
    refine ok_iret F G dX8_count_136 ?_
    refine ⟨?_, rfl⟩
    rw [if_neg (by omega), if_neg (by omega), if_neg (by omega), if_neg (by omega), if_neg (by omega), if_neg (by omega), if_neg (by omega), if_neg (by omega), if_neg (by omega), if_neg (by omega)]
  by_cases c_1_0 : w = 0
  · refine ok_tabIn F 56 dX8_count_1 (by omega) (by omega) (by omega) (off := 55) (by rw [c_1_0]; rfl) (by decide) ?_
    refine ok_aload_n F dX8_count_56 0 rfl ?_
    refine ok_getr F dX8_count_57 kF_X8_9 sh_0 rfl ?_
    refine ok_iconst F dX8_count_60 ?_
    refine ok_iald (v := mem 1 0) F dX8_count_61 sh_1 (by first | decide | assumption) (by omega) (by omega) rfl ?_
    refine ok_iret F G dX8_count_62 ?_
    refine ⟨?_, rfl⟩
    subst w
    rfl
  by_cases c_1_1 : w = 1
  · refine ok_tabIn F 63 dX8_count_1 (by omega) (by omega) (by omega) (off := 62) (by rw [c_1_1]; rfl) (by decide) ?_
    refine ok_aload_n F dX8_count_63 0 rfl ?_
    refine ok_getr F dX8_count_64 kF_X8_9 sh_0 rfl ?_
    refine ok_iconst F dX8_count_67 ?_
    refine ok_iald (v := mem 1 1) F dX8_count_68 sh_1 (by first | decide | assumption) (by omega) (by omega) rfl ?_
    refine ok_iret F G dX8_count_69 ?_
    refine ⟨?_, rfl⟩
    subst w
    rfl
  by_cases c_1_2 : w = 2
  · refine ok_tabIn F 70 dX8_count_1 (by omega) (by omega) (by omega) (off := 69) (by rw [c_1_2]; rfl) (by decide) ?_
    refine ok_aload_n F dX8_count_70 0 rfl ?_
    refine ok_getr F dX8_count_71 kF_X8_9 sh_0 rfl ?_
    refine ok_iconst F dX8_count_74 ?_
    refine ok_iald (v := mem 1 2) F dX8_count_75 sh_1 (by first | decide | assumption) (by omega) (by omega) rfl ?_
    refine ok_iret F G dX8_count_76 ?_
    refine ⟨?_, rfl⟩
    subst w
    rfl
  by_cases c_1_3 : w = 3
  · refine ok_tabIn F 77 dX8_count_1 (by omega) (by omega) (by omega) (off := 76) (by rw [c_1_3]; rfl) (by decide) ?_
    refine ok_aload_n F dX8_count_77 0 rfl ?_
    refine ok_bipush F dX8_count_78 rfl ?_
    refine ok_callv F [pI 11] dX8_count_80 kM_X8_sumOf kI_X8_sumOf kV_X8_sumOf kL_X8_227 (ci := 8) rfl sh_0 rfl (by decide) (Nat.le_of_ble_eq_true rfl) rfl (m_X8_sumOf _ 11 mem (by omega) (by omega)) ?_
    rintro _ _ ⟨rfl, rfl⟩
    refine ok_iret F G dX8_count_83 ?_
    refine ⟨?_, rfl⟩
    subst w
    rfl
  by_cases c_1_4 : w = 4
  · refine ok_tabIn F 84 dX8_count_1 (by omega) (by omega) (by omega) (off := 83) (by rw [c_1_4]; rfl) (by decide) ?_
    refine ok_aload_n F dX8_count_84 0 rfl ?_
    refine ok_bipush F dX8_count_85 rfl ?_
    refine ok_callv F [pI 43] dX8_count_87 kM_X8_sumOf kI_X8_sumOf kV_X8_sumOf kL_X8_227 (ci := 8) rfl sh_0 rfl (by decide) (Nat.le_of_ble_eq_true rfl) rfl (m_X8_sumOf _ 43 mem (by omega) (by omega)) ?_
    rintro _ _ ⟨rfl, rfl⟩
    refine ok_iret F G dX8_count_90 ?_
    refine ⟨?_, rfl⟩
    subst w
    rfl
  by_cases c_1_5 : w = 5
  · refine ok_tabIn F 91 dX8_count_1 (by omega) (by omega) (by omega) (off := 90) (by rw [c_1_5]; rfl) (by decide) ?_
    refine ok_aload_n F dX8_count_91 0 rfl ?_
    refine ok_getf (v := mem 0 5) F dX8_count_92 kF_X8_188 sh_0 rfl rfl ?_
    refine ok_iret F G dX8_count_95 ?_
    refine ⟨?_, rfl⟩
    subst w
    rfl
  by_cases c_1_6 : w = 6
  · refine ok_tabIn F 96 dX8_count_1 (by omega) (by omega) (by omega) (off := 95) (by rw [c_1_6]; rfl) (by decide) ?_
    refine ok_aload_n F dX8_count_96 0 rfl ?_
    refine ok_getf (v := mem 0 7) F dX8_count_97 kF_X8_71 sh_0 rfl rfl ?_
    refine ok_iret F G dX8_count_100 ?_
    refine ⟨?_, rfl⟩
    subst w
    rfl
  by_cases c_1_7 : w = 7
  · refine ok_tabIn F 101 dX8_count_1 (by omega) (by omega) (by omega) (off := 100) (by rw [c_1_7]; rfl) (by decide) ?_
    refine ok_aload_n F dX8_count_101 0 rfl ?_
    refine ok_getr F dX8_count_102 kF_X8_22 sh_0 rfl ?_
    refine ok_iconst F dX8_count_105 ?_
    refine ok_zald (v := mem 5 0) F dX8_count_106 sh_5 (by first | decide | assumption) (by omega) (by omega) rfl ?_
    refine ok_calls F [pI (mem 5 0)] dX8_count_107 kM_X8_truth kS_X8_truth kL_X8_137 rfl (by decide) (Nat.le_of_ble_eq_true rfl) rfl (m_X8_truth _ (mem 5 0) mem (by omega)) ?_
    rintro _ _ ⟨rfl, rfl⟩
    refine ok_aload_n F dX8_count_110 0 rfl ?_
    refine ok_getr F dX8_count_111 kF_X8_22 sh_0 rfl ?_
    refine ok_iconst F dX8_count_114 ?_
    refine ok_zald (v := mem 5 1) F dX8_count_115 sh_5 (by first | decide | assumption) (by omega) (by omega) rfl ?_
    refine ok_calls F [pI (mem 5 1)] dX8_count_116 kM_X8_truth kS_X8_truth kL_X8_137 rfl (by decide) (Nat.le_of_ble_eq_true rfl) rfl (m_X8_truth _ (mem 5 1) mem (by omega)) ?_
    rintro _ _ ⟨rfl, rfl⟩
    refine ok_iconst F dX8_count_119 ?_
    refine ok_ishl F dX8_count_120 ?_
    refine ok_ior F dX8_count_121 ?_
    refine ok_iret F G dX8_count_122 ?_
    refine ⟨?_, rfl⟩
    subst w
    rfl
  by_cases c_1_8 : w = 8
  · refine ok_tabIn F 123 dX8_count_1 (by omega) (by omega) (by omega) (off := 122) (by rw [c_1_8]; rfl) (by decide) ?_
    refine ok_aload_n F dX8_count_123 0 rfl ?_
    refine ok_iconst F dX8_count_124 ?_
    refine ok_callv F [pI 1] dX8_count_125 kM_X8_beside kI_X8_beside kV_X8_beside kL_X8_393 (ci := 8) rfl sh_0 rfl (by decide) (Nat.le_of_ble_eq_true rfl) rfl (m_X8_beside _ 1 mem (by omega) (by omega) (by omega) (by omega)) ?_
    rintro _ _ ⟨rfl, rfl⟩
    refine ok_iret F G dX8_count_128 ?_
    refine ⟨?_, rfl⟩
    subst w
    rfl
  by_cases c_1_9 : w = 9
  · refine ok_tabIn F 129 dX8_count_1 (by omega) (by omega) (by omega) (off := 128) (by rw [c_1_9]; rfl) (by decide) ?_
    refine ok_aload_n F dX8_count_129 0 rfl ?_
    refine ok_iconst F dX8_count_130 ?_
    refine ok_callv F [pI 0] dX8_count_131 kM_X8_beside kI_X8_beside kV_X8_beside kL_X8_393 (ci := 8) rfl sh_0 rfl (by decide) (Nat.le_of_ble_eq_true rfl) rfl (m_X8_beside _ 0 mem (by omega) (by omega) (by omega) (by omega)) ?_
    rintro _ _ ⟨rfl, rfl⟩
    refine ok_iret F G dX8_count_134 ?_
    refine ⟨?_, rfl⟩
    subst w
    rfl
  exfalso; omega
