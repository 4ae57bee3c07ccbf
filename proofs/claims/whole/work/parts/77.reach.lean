/-! the class: the amounts that can be reached, a bit each -/
def rS (m : Mem) (a : Nat) : Bool := wb (m 208 (a / 64)) (a % 64)
theorem add_word {mem : Mem} {s W a : Nat} {new : Int} (hw : s / 64 ≤ W) (ha : a / 64 = W)
    (hn : (0 < s % 64 ∧ s / 64 < W) ∧ new = lor (mem 208 W) (lor (lshl (mem 208 (W - s / 64)) ((s % 64 : Nat) : Int)) (lushr (mem 208 (W - s / 64 - 1)) ((64 - s % 64 : Nat) : Int))) ∨ ¬ (0 < s % 64 ∧ s / 64 < W) ∧ new = lor (mem 208 W) (lshl (mem 208 (W - s / 64)) ((s % 64 : Nat) : Int))) :
    wb new (a % 64) = (rS mem a || (decide (s ≤ a) && rS mem (a - s))) := by
  have hb : a % 64 < 64 := Nat.mod_lt _ (by decide)
  have hr : s % 64 < 64 := Nat.mod_lt _ (by decide)
  have e1 : rS mem a = wb (mem 208 W) (a % 64) := by unfold rS; rw [ha]
  rw [e1]
  by_cases g : s % 64 ≤ a % 64
  · have hsa : s ≤ a := by omega
    have e2 : rS mem (a - s) = wb (mem 208 (W - s / 64)) (a % 64 - s % 64) := by
      unfold rS
      rw [show (a - s) / 64 = W - s / 64 by omega, show (a - s) % 64 = a % 64 - s % 64 by omega]
    rw [e2, decide_eq_true hsa, Bool.true_and]
    rcases hn with ⟨h1, h2⟩ | ⟨h1, h2⟩
    · rw [h2, wb_lor, wb_lor, wb_lshl _ hr hb, wb_lushr _ (by omega), wb_ge (mem 208 (W - s / 64 - 1)) (b := 64 - s % 64 + a % 64) (by omega), decide_eq_true g, Bool.true_and, Bool.or_false]
    · rw [h2, wb_lor, wb_lshl _ hr hb, decide_eq_true g, Bool.true_and]
  · rcases hn with ⟨h1, h2⟩ | ⟨h1, h2⟩
    · have hsa : s ≤ a := by omega
      have e2 : rS mem (a - s) = wb (mem 208 (W - s / 64 - 1)) (64 - s % 64 + a % 64) := by
        unfold rS
        rw [show (a - s) / 64 = W - s / 64 - 1 by omega, show (a - s) % 64 = 64 - s % 64 + a % 64 by omega]
      rw [e2, decide_eq_true hsa, Bool.true_and, h2, wb_lor, wb_lor, wb_lshl _ hr hb, wb_lushr _ (by omega), decide_eq_false g, Bool.false_and, Bool.false_or]
    · have hsa : ¬ s ≤ a := by omega
      rw [decide_eq_false hsa, Bool.false_and, h2, wb_lor, wb_lshl _ hr hb, decide_eq_false g, Bool.false_and]
theorem cnt_int (X : Int) : ∀ n : Nat, ((cntB (UB X) n : Nat) : Int) = sumN (fun b => if wb X b = true then 1 else 0) n
  | 0 => rfl
  | n + 1 => by
    show ((cntB (UB X) n + (if (UB X).testBit n = true then 1 else 0) : Nat) : Int) = sumN (fun b => if wb X b = true then 1 else 0) n + (if wb X n = true then 1 else 0)
    rw [← cnt_int X n]
    unfold wb
    split <;> omega
theorem sumN_add (g : Nat → Int) (a : Nat) : ∀ b : Nat, sumN g (a + b) = sumN g a + sumN (fun k => g (a + k)) b
  | 0 => (Int.add_zero _).symm
  | b + 1 => by
    show sumN g (a + b) + g (a + b) = sumN g a + (sumN (fun k => g (a + k)) b + g (a + b))
    rw [sumN_add g a b]
    omega
theorem cnt_words (m : Mem) : ∀ i : Nat, sumN (fun a => if rS m a = true then (1 : Int) else 0) (64 * i) = sumN (fun j => ((cntB (UB (m 208 j)) 64 : Nat) : Int)) i
  | 0 => rfl
  | i + 1 => by
    show _ = sumN (fun j => ((cntB (UB (m 208 j)) 64 : Nat) : Int)) i + ((cntB (UB (m 208 i)) 64 : Nat) : Int)
    rw [Nat.mul_succ, sumN_add, cnt_words m i, cnt_int]
    congr 1
    refine sumN_congr (fun b hb => ?_)
    unfold rS
    rw [show (64 * i + b) / 64 = i by omega, show (64 * i + b) % 64 = b by omega]
theorem cnt_low (X : Nat) : ∀ k : Nat, cntB (X &&& 31) (5 + k) = cntB X 5
  | 0 => by
    have h : X &&& 31 = X % 2 ^ 5 := Nat.and_two_pow_sub_one_eq_mod _ 5
    rw [h]
    have e : ∀ n : Nat, n ≤ 5 → cntB (X % 2 ^ 5) n = cntB X n := by
      intro n
      induction n with
      | zero => intro _; rfl
      | succ n ih =>
        intro hn
        show cntB (X % 2 ^ 5) n + (if (X % 2 ^ 5).testBit n = true then 1 else 0) = cntB X n + (if X.testBit n = true then 1 else 0)
        rw [ih (by omega), Nat.testBit_mod_two_pow, decide_eq_true (by omega : n < 5), Bool.true_and]
    exact e 5 (Nat.le_refl _)
  | k + 1 => by
    have h : X &&& 31 = X % 2 ^ 5 := Nat.and_two_pow_sub_one_eq_mod _ 5
    show cntB (X &&& 31) (5 + k) + (if (X &&& 31).testBit (5 + k) = true then 1 else 0) = cntB X 5
    rw [cnt_low X k, h, Nat.testBit_mod_two_pow, decide_eq_false (by omega : ¬ 5 + k < 5), Bool.false_and]
    rfl
theorem cnt_last (w : Int) : ((cntB (UB (land w 31)) 64 : Nat) : Int) = sumN (fun b => if wb w b = true then 1 else 0) 5 := by
  have e : UB 31 = 31 := by decide +kernel
  rw [UB_land, e, ← cnt_int]
  congr 1
  exact cnt_low (UB w) 59
theorem sum_not (g : Nat → Bool) : ∀ n : Nat, sumN (fun a => if g a = true then (0 : Int) else 1) n = n - sumN (fun a => if g a = true then (1 : Int) else 0) n
  | 0 => rfl
  | n + 1 => by
    show sumN (fun a => if g a = true then (0 : Int) else 1) n + (if g n = true then 0 else 1) = _ - (sumN (fun a => if g a = true then (1 : Int) else 0) n + (if g n = true then 1 else 0))
    rw [sum_not g n]
    split <;> omega
theorem miss_all (m : Mem) : sumN (fun a => if rS m a = true then (0 : Int) else 1) 2501 = 2501 - (((cntB (UB (land (m 208 39) 31)) 64 : Nat) : Int) + sumN (fun j => ((cntB (UB (m 208 j)) 64 : Nat) : Int)) 39) := by
  rw [sum_not, show 2501 = 64 * 39 + 5 from rfl, sumN_add, cnt_words, cnt_last]
  have e : sumN (fun k => if rS m (64 * 39 + k) = true then (1 : Int) else 0) 5 = sumN (fun b => if wb (m 208 39) b = true then 1 else 0) 5 := sumN_congr (fun b hb => by
    unfold rS
    rw [show (64 * 39 + b) / 64 = 39 by omega, show (64 * 39 + b) % 64 = b by omega])
  rw [e]
  show ((64 * 39 + 5 : Nat) : Int) - _ = _
  omega
theorem gapAt_s (f : Nat → Bool) (n a : Nat) : gapAt f (n + 1) a = if f a = true then (a : Int) else gapAt f n (a + 1) := rfl
theorem dX3_addShifted_0 : decode cX3_addShifted 0 = .ok (.iload_n 1, 1) := by decide +kernel
theorem dX3_addShifted_1 : decode cX3_addShifted 1 = .ok (.iconst 1, 1) := by decide +kernel
theorem dX3_addShifted_2 : decode cX3_addShifted 2 = .ok (.if_icmp .lt 10, 3) := by decide +kernel
theorem dX3_addShifted_5 : decode cX3_addShifted 5 = .ok (.iload_n 1, 1) := by decide +kernel
theorem dX3_addShifted_6 : decode cX3_addShifted 6 = .ok (.sipush 2500, 3) := by decide +kernel
theorem dX3_addShifted_9 : decode cX3_addShifted 9 = .ok (.if_icmp .le 4, 3) := by decide +kernel
theorem dX3_addShifted_12 : decode cX3_addShifted 12 = .ok (.return_, 1) := by decide +kernel
theorem dX3_addShifted_13 : decode cX3_addShifted 13 = .ok (.iload_n 1, 1) := by decide +kernel
theorem dX3_addShifted_14 : decode cX3_addShifted 14 = .ok (.bipush 64, 2) := by decide +kernel
theorem dX3_addShifted_16 : decode cX3_addShifted 16 = .ok (.idiv, 1) := by decide +kernel
theorem dX3_addShifted_17 : decode cX3_addShifted 17 = .ok (.istore_n 2, 1) := by decide +kernel
theorem dX3_addShifted_18 : decode cX3_addShifted 18 = .ok (.iload_n 1, 1) := by decide +kernel
theorem dX3_addShifted_19 : decode cX3_addShifted 19 = .ok (.bipush 64, 2) := by decide +kernel
theorem dX3_addShifted_21 : decode cX3_addShifted 21 = .ok (.irem, 1) := by decide +kernel
theorem dX3_addShifted_22 : decode cX3_addShifted 22 = .ok (.istore_n 3, 1) := by decide +kernel
theorem dX3_addShifted_23 : decode cX3_addShifted 23 = .ok (.bipush 39, 2) := by decide +kernel
theorem dX3_addShifted_25 : decode cX3_addShifted 25 = .ok (.istore 4, 2) := by decide +kernel
theorem dX3_addShifted_27 : decode cX3_addShifted 27 = .ok (.iload 4, 2) := by decide +kernel
theorem dX3_addShifted_29 : decode cX3_addShifted 29 = .ok (.iload_n 2, 1) := by decide +kernel
theorem dX3_addShifted_30 : decode cX3_addShifted 30 = .ok (.if_icmp .lt 65, 3) := by decide +kernel
theorem dX3_addShifted_33 : decode cX3_addShifted 33 = .ok (.aload_n 0, 1) := by decide +kernel
theorem dX3_addShifted_34 : decode cX3_addShifted 34 = .ok (.getfield 11, 3) := by decide +kernel
theorem dX3_addShifted_37 : decode cX3_addShifted 37 = .ok (.iload 4, 2) := by decide +kernel
theorem dX3_addShifted_39 : decode cX3_addShifted 39 = .ok (.iload_n 2, 1) := by decide +kernel
theorem dX3_addShifted_40 : decode cX3_addShifted 40 = .ok (.isub, 1) := by decide +kernel
theorem dX3_addShifted_41 : decode cX3_addShifted 41 = .ok (.laload, 1) := by decide +kernel
theorem dX3_addShifted_42 : decode cX3_addShifted 42 = .ok (.iload_n 3, 1) := by decide +kernel
theorem dX3_addShifted_43 : decode cX3_addShifted 43 = .ok (.lshl, 1) := by decide +kernel
theorem dX3_addShifted_44 : decode cX3_addShifted 44 = .ok (.lstore 5, 2) := by decide +kernel
theorem dX3_addShifted_46 : decode cX3_addShifted 46 = .ok (.iload_n 3, 1) := by decide +kernel
theorem dX3_addShifted_47 : decode cX3_addShifted 47 = .ok (.ifCond .le 30, 3) := by decide +kernel
theorem dX3_addShifted_50 : decode cX3_addShifted 50 = .ok (.iload 4, 2) := by decide +kernel
theorem dX3_addShifted_52 : decode cX3_addShifted 52 = .ok (.iload_n 2, 1) := by decide +kernel
theorem dX3_addShifted_53 : decode cX3_addShifted 53 = .ok (.if_icmp .le 24, 3) := by decide +kernel
theorem dX3_addShifted_56 : decode cX3_addShifted 56 = .ok (.lload 5, 2) := by decide +kernel
theorem dX3_addShifted_58 : decode cX3_addShifted 58 = .ok (.aload_n 0, 1) := by decide +kernel
theorem dX3_addShifted_59 : decode cX3_addShifted 59 = .ok (.getfield 11, 3) := by decide +kernel
theorem dX3_addShifted_62 : decode cX3_addShifted 62 = .ok (.iload 4, 2) := by decide +kernel
theorem dX3_addShifted_64 : decode cX3_addShifted 64 = .ok (.iload_n 2, 1) := by decide +kernel
theorem dX3_addShifted_65 : decode cX3_addShifted 65 = .ok (.isub, 1) := by decide +kernel
theorem dX3_addShifted_66 : decode cX3_addShifted 66 = .ok (.iconst 1, 1) := by decide +kernel
theorem dX3_addShifted_67 : decode cX3_addShifted 67 = .ok (.isub, 1) := by decide +kernel
theorem dX3_addShifted_68 : decode cX3_addShifted 68 = .ok (.laload, 1) := by decide +kernel
theorem dX3_addShifted_69 : decode cX3_addShifted 69 = .ok (.bipush 64, 2) := by decide +kernel
theorem dX3_addShifted_71 : decode cX3_addShifted 71 = .ok (.iload_n 3, 1) := by decide +kernel
theorem dX3_addShifted_72 : decode cX3_addShifted 72 = .ok (.isub, 1) := by decide +kernel
theorem dX3_addShifted_73 : decode cX3_addShifted 73 = .ok (.lushr, 1) := by decide +kernel
theorem dX3_addShifted_74 : decode cX3_addShifted 74 = .ok (.lor, 1) := by decide +kernel
theorem dX3_addShifted_75 : decode cX3_addShifted 75 = .ok (.lstore 5, 2) := by decide +kernel
theorem dX3_addShifted_77 : decode cX3_addShifted 77 = .ok (.aload_n 0, 1) := by decide +kernel
theorem dX3_addShifted_78 : decode cX3_addShifted 78 = .ok (.getfield 11, 3) := by decide +kernel
theorem dX3_addShifted_81 : decode cX3_addShifted 81 = .ok (.iload 4, 2) := by decide +kernel
theorem dX3_addShifted_83 : decode cX3_addShifted 83 = .ok (.dup2, 1) := by decide +kernel
theorem dX3_addShifted_84 : decode cX3_addShifted 84 = .ok (.laload, 1) := by decide +kernel
theorem dX3_addShifted_85 : decode cX3_addShifted 85 = .ok (.lload 5, 2) := by decide +kernel
theorem dX3_addShifted_87 : decode cX3_addShifted 87 = .ok (.lor, 1) := by decide +kernel
theorem dX3_addShifted_88 : decode cX3_addShifted 88 = .ok (.lastore, 1) := by decide +kernel
theorem dX3_addShifted_89 : decode cX3_addShifted 89 = .ok (.iinc 4 (-1), 3) := by decide +kernel
theorem dX3_addShifted_92 : decode cX3_addShifted 92 = .ok (.goto (-65), 3) := by decide +kernel
theorem dX3_addShifted_95 : decode cX3_addShifted 95 = .ok (.return_, 1) := by decide +kernel
set_option maxHeartbeats 4000000 in
set_option maxRecDepth 100000 in
theorem m_X3_addShifted (l : Launch) (s : Int) (mem : Mem) (hs : i32 s) : Ret shp l yX3_addShifted cX3_addShifted 7 none 0 [pR 207, pI s] mem (fun rv mv => rv = none ∧ (∀ c, c ≠ 208 → mv c = mem c) ∧ ∀ a : Nat, a < 2560 → rS mv a = (rS mem a || (decide (1 ≤ s ∧ s ≤ 2500 ∧ s.toNat ≤ a) && rS mem (a - s.toNat)))) := by
  refine ret_of (by decide +kernel) (Nat.le_of_ble_eq_true rfl) (fun X hX F G => ?_)
  show Ok shp X 7 0 [(0, pR 207), (1, pI s)] [] mem
  refine ok_iload_n F dX3_addShifted_0 1 rfl ?_
  refine ok_iconst F dX3_addShifted_1 ?_
  refine ok_icmp_lt F 12 dX3_addShifted_2 (by decide) (by omega) (by omega) (fun c_1 => ?_) (fun c_1 => ?_)
  · refine ok_vret F G dX3_addShifted_12 ?_
    exact ⟨rfl, fun _ _ => rfl, fun a _ => by rw [decide_eq_false (by omega), Bool.false_and, Bool.or_false]⟩
  · refine ok_iload_n F dX3_addShifted_5 1 rfl ?_
    refine ok_sipush F dX3_addShifted_6 rfl ?_
    refine ok_icmp_le F 13 dX3_addShifted_9 (by decide) (by omega) (by omega) (fun c_2 => ?_) (fun c_2 => ?_)
    · have hq := Int.tdiv_eq_ediv_of_nonneg (a := s) (b := 64) (by omega)
      have hr0 := Int.tmod_eq_emod_of_nonneg (a := s) (b := 64) (by omega)
      have hq2 : (s.tdiv 64).toNat = s.toNat / 64 := by omega
      have hr : s.tmod 64 = ((s.toNat % 64 : Nat) : Int) := by omega
      refine ok_iload_n F dX3_addShifted_13 1 rfl ?_
      refine ok_bipush F dX3_addShifted_14 rfl ?_
      refine ok_idiv F dX3_addShifted_16 (by omega) (by omega) (by omega) ?_
      refine ok_istore_n (lv' := [(2, pI (s.tdiv 64)), (0, pR 207), (1, pI s)]) F dX3_addShifted_17 (by decide) rfl ?_
      refine ok_iload_n F dX3_addShifted_18 2 rfl ?_
      refine ok_bipush F dX3_addShifted_19 rfl ?_
      refine ok_irem F dX3_addShifted_21 (by omega) (by omega) (by omega) ?_
      refine ok_istore_n (lv' := [(3, pI (s.tmod 64)), (2, pI (s.tdiv 64)), (0, pR 207), (1, pI s)]) F dX3_addShifted_22 (by decide) rfl ?_
      refine ok_bipush F dX3_addShifted_23 rfl ?_
      refine ok_istore (lv' := [(4, pI 39), (3, pI (s.tmod 64)), (2, pI (s.tdiv 64)), (0, pR 207), (1, pI s)]) F dX3_addShifted_25 (by decide) rfl ?_
      have hL_27 : ∀ (n_27 : Nat) (i : Int) (m : Mem), (s.tdiv 64 - 1 ≤ i ∧ i ≤ 39 ∧ (∀ c, c ≠ 208 → m c = mem c) ∧ (∀ j : Nat, (j : Int) ≤ i → m 208 j = mem 208 j) ∧ ∀ a : Nat, a < 2560 → i < ((a / 64 : Nat) : Int) → rS m a = (rS mem a || (decide (s.toNat ≤ a) && rS mem (a - s.toNat)))) → (i + 1).toNat = n_27 → Ok shp X 7 27 [(0, pR 207), (1, pI s), (2, pI (s.tdiv 64)), (3, pI (s.tmod 64)), (4, pI i)] [] m := by
        intro n_27
        induction n_27 using Nat.strongRecOn with
        | _ n_27 ih_27 =>
          intro i m hI_27 hn_27
          obtain ⟨hi0, hi1, hF, hL, hU⟩ := hI_27
          refine ok_iload F dX3_addShifted_27 4 rfl ?_
          refine ok_iload_n F dX3_addShifted_29 2 rfl ?_
          refine ok_icmp_lt F 95 dX3_addShifted_30 (by decide) (by omega) (by omega) (fun c_3 => ?_) (fun c_3 => ?_)
          · refine ok_vret F G dX3_addShifted_95 ?_
            refine ⟨rfl, hF, fun a ha => ?_⟩
            have hd : decide (1 ≤ s ∧ s ≤ 2500 ∧ s.toNat ≤ a) = decide (s.toNat ≤ a) := by
              by_cases z : s.toNat ≤ a
              · rw [decide_eq_true z]; exact decide_eq_true (by omega)
              · rw [decide_eq_false z]; exact decide_eq_false (by omega)
            rw [hd]
            by_cases y : i < ((a / 64 : Nat) : Int)
            · exact hU a ha y
            · have e0 : rS m a = rS mem a := by
                unfold rS
                rw [hL _ (by omega)]
              rw [e0, decide_eq_false (by omega), Bool.false_and, Bool.or_false]
          · refine ok_aload_n F dX3_addShifted_33 0 rfl ?_
            refine ok_getr F dX3_addShifted_34 kF_X3_11 sh_207 rfl ?_
            refine ok_iload F dX3_addShifted_37 4 rfl ?_
            refine ok_iload_n F dX3_addShifted_39 2 rfl ?_
            refine ok_isub F dX3_addShifted_40 ?_
            refine ok_lald (v := m 208 ((i - (s.tdiv 64)).toNat)) F dX3_addShifted_41 sh_208 (by first | decide | assumption) (by omega) (by omega) rfl ?_
            refine ok_iload_n F dX3_addShifted_42 3 rfl ?_
            refine ok_lshl F dX3_addShifted_43 ?_
            refine ok_lstore (lv' := [(5, pL (lshl (m 208 ((i - (s.tdiv 64)).toNat)) (s.tmod 64))), (0, pR 207), (1, pI s), (2, pI (s.tdiv 64)), (3, pI (s.tmod 64)), (4, pI i)]) F dX3_addShifted_44 (by decide) rfl ?_
            refine ok_iload_n F dX3_addShifted_46 4 rfl ?_
            refine ok_if_le F 77 dX3_addShifted_47 (by decide) (by omega) (fun c_4 => ?_) (fun c_4 => ?_)
            · refine ok_aload_n F dX3_addShifted_77 1 rfl ?_
              refine ok_getr F dX3_addShifted_78 kF_X3_11 sh_207 rfl ?_
              refine ok_iload F dX3_addShifted_81 5 rfl ?_
              refine ok_dup2 F dX3_addShifted_83 rfl rfl ?_
              refine ok_lald (v := m 208 i.toNat) F dX3_addShifted_84 sh_208 (by first | decide | assumption) (by omega) (by omega) rfl ?_
              refine ok_lload F dX3_addShifted_85 0 rfl ?_
              refine ok_lor F dX3_addShifted_87 ?_
              refine ok_last F dX3_addShifted_88 sh_208 (by first | decide | assumption) (by omega) (by omega) (fun m_5 e_6 => ?_)
              refine ok_iinc (lv' := [(4, pI (i + (-1))), (5, pL (lshl (m 208 ((i - (s.tdiv 64)).toNat)) (s.tmod 64))), (0, pR 207), (1, pI s), (2, pI (s.tdiv 64)), (3, pI (s.tmod 64))]) F dX3_addShifted_89 5 rfl (by decide) rfl ?_
              refine ok_goto F 27 dX3_addShifted_92 (by decide) ?_
              refine ok_lvp [2, 3, 4, 5, 0] (lv' := [(0, pR 207), (1, pI s), (2, pI (s.tdiv 64)), (3, pI (s.tmod 64)), (4, pI (i + (-1)))]) rfl ?_
              refine ih_27 _ ?_ (i + (-1)) m_5 ?_ rfl
              · omega
              · refine ⟨by omega, by omega, fun c hc => by rw [e_6, mset_nka hc]; exact hF c hc, fun j hj => by rw [e_6, mset_ne (by omega)]; exact hL j (by omega), fun a ha hia => ?_⟩
                by_cases y : a / 64 = i.toNat
                · have e0 : rS m_5 a = wb (m_5 208 (a / 64)) (a % 64) := rfl
                  rw [e0, y, e_6, mset_eq]
                  refine add_word (by omega) y ?_
                  have w1 : m 208 i.toNat = mem 208 i.toNat := hL _ (by omega)
                  have w2 : m 208 (i - s.tdiv 64).toNat = mem 208 (i.toNat - s.toNat / 64) := by rw [hL _ (by omega), show (i - s.tdiv 64).toNat = i.toNat - s.toNat / 64 by omega]
                  rw [w1, w2, hr]
                  first
                    | exact Or.inr ⟨by omega, rfl⟩
                    | (have w3 : m 208 (i - s.tdiv 64 - 1).toNat = mem 208 (i.toNat - s.toNat / 64 - 1) := by rw [hL _ (by omega), show (i - s.tdiv 64 - 1).toNat = i.toNat - s.toNat / 64 - 1 by omega]
                       exact Or.inl ⟨by omega, by rw [w3, show (64 : Int) - ((s.toNat % 64 : Nat) : Int) = ((64 - s.toNat % 64 : Nat) : Int) by omega]⟩)
                · have e0 : rS m_5 a = rS m a := by
                    unfold rS
                    rw [e_6, mset_ne (fun q => y q.2)]
                  rw [e0]; exact hU a ha (by omega)
            · refine ok_iload F dX3_addShifted_50 5 rfl ?_
              refine ok_iload_n F dX3_addShifted_52 3 rfl ?_
              refine ok_icmp_le F 77 dX3_addShifted_53 (by decide) (by omega) (by omega) (fun c_7 => ?_) (fun c_7 => ?_)
              · refine ok_aload_n F dX3_addShifted_77 1 rfl ?_
                refine ok_getr F dX3_addShifted_78 kF_X3_11 sh_207 rfl ?_
                refine ok_iload F dX3_addShifted_81 5 rfl ?_
                refine ok_dup2 F dX3_addShifted_83 rfl rfl ?_
                refine ok_lald (v := m 208 i.toNat) F dX3_addShifted_84 sh_208 (by first | decide | assumption) (by omega) (by omega) rfl ?_
                refine ok_lload F dX3_addShifted_85 0 rfl ?_
                refine ok_lor F dX3_addShifted_87 ?_
                refine ok_last F dX3_addShifted_88 sh_208 (by first | decide | assumption) (by omega) (by omega) (fun m_8 e_9 => ?_)
                refine ok_iinc (lv' := [(4, pI (i + (-1))), (5, pL (lshl (m 208 ((i - (s.tdiv 64)).toNat)) (s.tmod 64))), (0, pR 207), (1, pI s), (2, pI (s.tdiv 64)), (3, pI (s.tmod 64))]) F dX3_addShifted_89 5 rfl (by decide) rfl ?_
                refine ok_goto F 27 dX3_addShifted_92 (by decide) ?_
                refine ok_lvp [2, 3, 4, 5, 0] (lv' := [(0, pR 207), (1, pI s), (2, pI (s.tdiv 64)), (3, pI (s.tmod 64)), (4, pI (i + (-1)))]) rfl ?_
                refine ih_27 _ ?_ (i + (-1)) m_8 ?_ rfl
                · omega
                · refine ⟨by omega, by omega, fun c hc => by rw [e_9, mset_nka hc]; exact hF c hc, fun j hj => by rw [e_9, mset_ne (by omega)]; exact hL j (by omega), fun a ha hia => ?_⟩
                  by_cases y : a / 64 = i.toNat
                  · have e0 : rS m_8 a = wb (m_8 208 (a / 64)) (a % 64) := rfl
                    rw [e0, y, e_9, mset_eq]
                    refine add_word (by omega) y ?_
                    have w1 : m 208 i.toNat = mem 208 i.toNat := hL _ (by omega)
                    have w2 : m 208 (i - s.tdiv 64).toNat = mem 208 (i.toNat - s.toNat / 64) := by rw [hL _ (by omega), show (i - s.tdiv 64).toNat = i.toNat - s.toNat / 64 by omega]
                    rw [w1, w2, hr]
                    first
                      | exact Or.inr ⟨by omega, rfl⟩
                      | (have w3 : m 208 (i - s.tdiv 64 - 1).toNat = mem 208 (i.toNat - s.toNat / 64 - 1) := by rw [hL _ (by omega), show (i - s.tdiv 64 - 1).toNat = i.toNat - s.toNat / 64 - 1 by omega]
                         exact Or.inl ⟨by omega, by rw [w3, show (64 : Int) - ((s.toNat % 64 : Nat) : Int) = ((64 - s.toNat % 64 : Nat) : Int) by omega]⟩)
                  · have e0 : rS m_8 a = rS m a := by
                      unfold rS
                      rw [e_9, mset_ne (fun q => y q.2)]
                    rw [e0]; exact hU a ha (by omega)
              · refine ok_lload F dX3_addShifted_56 0 rfl ?_
                refine ok_aload_n F dX3_addShifted_58 1 rfl ?_
                refine ok_getr F dX3_addShifted_59 kF_X3_11 sh_207 rfl ?_
                refine ok_iload F dX3_addShifted_62 5 rfl ?_
                refine ok_iload_n F dX3_addShifted_64 3 rfl ?_
                refine ok_isub F dX3_addShifted_65 ?_
                refine ok_iconst F dX3_addShifted_66 ?_
                refine ok_isub F dX3_addShifted_67 ?_
                refine ok_lald (v := m 208 (((i - (s.tdiv 64)) - 1).toNat)) F dX3_addShifted_68 sh_208 (by first | decide | assumption) (by omega) (by omega) rfl ?_
                refine ok_bipush F dX3_addShifted_69 rfl ?_
                refine ok_iload_n F dX3_addShifted_71 4 rfl ?_
                refine ok_isub F dX3_addShifted_72 ?_
                refine ok_lushr F dX3_addShifted_73 ?_
                refine ok_lor F dX3_addShifted_74 ?_
                refine ok_lstore (lv' := [(5, pL (lor (lshl (m 208 ((i - (s.tdiv 64)).toNat)) (s.tmod 64)) (lushr (m 208 (((i - (s.tdiv 64)) - 1).toNat)) (64 - (s.tmod 64))))), (0, pR 207), (1, pI s), (2, pI (s.tdiv 64)), (3, pI (s.tmod 64)), (4, pI i)]) F dX3_addShifted_75 (by decide) rfl ?_
                refine ok_aload_n F dX3_addShifted_77 1 rfl ?_
                refine ok_getr F dX3_addShifted_78 kF_X3_11 sh_207 rfl ?_
                refine ok_iload F dX3_addShifted_81 5 rfl ?_
                refine ok_dup2 F dX3_addShifted_83 rfl rfl ?_
                refine ok_lald (v := m 208 i.toNat) F dX3_addShifted_84 sh_208 (by first | decide | assumption) (by omega) (by omega) rfl ?_
                refine ok_lload F dX3_addShifted_85 0 rfl ?_
                refine ok_lor F dX3_addShifted_87 ?_
                refine ok_last F dX3_addShifted_88 sh_208 (by first | decide | assumption) (by omega) (by omega) (fun m_10 e_11 => ?_)
                refine ok_iinc (lv' := [(4, pI (i + (-1))), (5, pL (lor (lshl (m 208 ((i - (s.tdiv 64)).toNat)) (s.tmod 64)) (lushr (m 208 (((i - (s.tdiv 64)) - 1).toNat)) (64 - (s.tmod 64))))), (0, pR 207), (1, pI s), (2, pI (s.tdiv 64)), (3, pI (s.tmod 64))]) F dX3_addShifted_89 5 rfl (by decide) rfl ?_
                refine ok_goto F 27 dX3_addShifted_92 (by decide) ?_
                refine ok_lvp [2, 3, 4, 5, 0] (lv' := [(0, pR 207), (1, pI s), (2, pI (s.tdiv 64)), (3, pI (s.tmod 64)), (4, pI (i + (-1)))]) rfl ?_
                refine ih_27 _ ?_ (i + (-1)) m_10 ?_ rfl
                · omega
                · refine ⟨by omega, by omega, fun c hc => by rw [e_11, mset_nka hc]; exact hF c hc, fun j hj => by rw [e_11, mset_ne (by omega)]; exact hL j (by omega), fun a ha hia => ?_⟩
                  by_cases y : a / 64 = i.toNat
                  · have e0 : rS m_10 a = wb (m_10 208 (a / 64)) (a % 64) := rfl
                    rw [e0, y, e_11, mset_eq]
                    refine add_word (by omega) y ?_
                    have w1 : m 208 i.toNat = mem 208 i.toNat := hL _ (by omega)
                    have w2 : m 208 (i - s.tdiv 64).toNat = mem 208 (i.toNat - s.toNat / 64) := by rw [hL _ (by omega), show (i - s.tdiv 64).toNat = i.toNat - s.toNat / 64 by omega]
                    rw [w1, w2, hr]
                    first
                      | exact Or.inr ⟨by omega, rfl⟩
                      | (have w3 : m 208 (i - s.tdiv 64 - 1).toNat = mem 208 (i.toNat - s.toNat / 64 - 1) := by rw [hL _ (by omega), show (i - s.tdiv 64 - 1).toNat = i.toNat - s.toNat / 64 - 1 by omega]
                         exact Or.inl ⟨by omega, by rw [w3, show (64 : Int) - ((s.toNat % 64 : Nat) : Int) = ((64 - s.toNat % 64 : Nat) : Int) by omega]⟩)
                  · have e0 : rS m_10 a = rS m a := by
                      unfold rS
                      rw [e_11, mset_ne (fun q => y q.2)]
                    rw [e0]; exact hU a ha (by omega)
      refine ok_lvp [3, 4, 2, 1, 0] (lv' := [(0, pR 207), (1, pI s), (2, pI (s.tdiv 64)), (3, pI (s.tmod 64)), (4, pI 39)]) rfl ?_
      refine hL_27 _ 39 mem ?_ rfl
      exact ⟨by omega, by omega, fun _ _ => rfl, fun _ _ => rfl, fun a ha h => by omega⟩
    · refine ok_vret F G dX3_addShifted_12 ?_
      exact ⟨rfl, fun _ _ => rfl, fun a _ => by rw [decide_eq_false (by omega), Bool.false_and, Bool.or_false]⟩
theorem dX3_isReached_0 : decode cX3_isReached 0 = .ok (.aload_n 0, 1) := by decide +kernel
theorem dX3_isReached_1 : decode cX3_isReached 1 = .ok (.getfield 11, 3) := by decide +kernel
theorem dX3_isReached_4 : decode cX3_isReached 4 = .ok (.iload_n 1, 1) := by decide +kernel
theorem dX3_isReached_5 : decode cX3_isReached 5 = .ok (.bipush 64, 2) := by decide +kernel
theorem dX3_isReached_7 : decode cX3_isReached 7 = .ok (.idiv, 1) := by decide +kernel
theorem dX3_isReached_8 : decode cX3_isReached 8 = .ok (.laload, 1) := by decide +kernel
theorem dX3_isReached_9 : decode cX3_isReached 9 = .ok (.iload_n 1, 1) := by decide +kernel
theorem dX3_isReached_10 : decode cX3_isReached 10 = .ok (.bipush 64, 2) := by decide +kernel
theorem dX3_isReached_12 : decode cX3_isReached 12 = .ok (.irem, 1) := by decide +kernel
theorem dX3_isReached_13 : decode cX3_isReached 13 = .ok (.lushr, 1) := by decide +kernel
theorem dX3_isReached_14 : decode cX3_isReached 14 = .ok (.lconst 1, 1) := by decide +kernel
theorem dX3_isReached_15 : decode cX3_isReached 15 = .ok (.land, 1) := by decide +kernel
theorem dX3_isReached_16 : decode cX3_isReached 16 = .ok (.lconst 1, 1) := by decide +kernel
theorem dX3_isReached_17 : decode cX3_isReached 17 = .ok (.lcmp, 1) := by decide +kernel
theorem dX3_isReached_18 : decode cX3_isReached 18 = .ok (.ifCond .ne 7, 3) := by decide +kernel
theorem dX3_isReached_21 : decode cX3_isReached 21 = .ok (.iconst 1, 1) := by decide +kernel
theorem dX3_isReached_22 : decode cX3_isReached 22 = .ok (.goto 4, 3) := by decide +kernel
theorem dX3_isReached_25 : decode cX3_isReached 25 = .ok (.iconst 0, 1) := by decide +kernel
theorem dX3_isReached_26 : decode cX3_isReached 26 = .ok (.ireturn, 1) := by decide +kernel
set_option maxHeartbeats 4000000 in
set_option maxRecDepth 100000 in
theorem m_X3_isReached (l : Launch) (a : Int) (mem : Mem) (ha : 0 ≤ a ∧ a ≤ 2500) : Ret shp l yX3_isReached cX3_isReached 2 (some .boolean) 0 [pR 207, pI a] mem (fun rv mv => rv = some (pI (if rS mem a.toNat = true then 1 else 0)) ∧ mem = mv) := by
  refine ret_of (by decide +kernel) (Nat.le_of_ble_eq_true rfl) (fun X hX F G => ?_)
  show Ok shp X 2 0 [(0, pR 207), (1, pI a)] [] mem
  have hq := Int.tdiv_eq_ediv_of_nonneg (a := a) (b := 64) (by omega)
  have hr0 := Int.tmod_eq_emod_of_nonneg (a := a) (b := 64) (by omega)
  have hq2 : (a.tdiv 64).toNat = a.toNat / 64 := by omega
  have hr : a.tmod 64 = ((a.toNat % 64 : Nat) : Int) := by omega
  have hw : wb (lushr (mem 208 (a.tdiv 64).toNat) (a.tmod 64)) 0 = rS mem a.toNat := by
    rw [hr, wb_lushr _ (Nat.mod_lt _ (by decide)), hq2]
    rfl
  have hl := land_1 (lushr (mem 208 (a.tdiv 64).toNat) (a.tmod 64))
  rw [hw] at hl
  refine ok_aload_n F dX3_isReached_0 0 rfl ?_
  refine ok_getr F dX3_isReached_1 kF_X3_11 sh_207 rfl ?_
  refine ok_iload_n F dX3_isReached_4 1 rfl ?_
  refine ok_bipush F dX3_isReached_5 rfl ?_
  refine ok_idiv F dX3_isReached_7 (by omega) (by omega) (by omega) ?_
  refine ok_lald (v := mem 208 ((a.tdiv 64).toNat)) F dX3_isReached_8 sh_208 (by first | decide | assumption) (by omega) (by omega) rfl ?_
  refine ok_iload_n F dX3_isReached_9 1 rfl ?_
  refine ok_bipush F dX3_isReached_10 rfl ?_
  refine ok_irem F dX3_isReached_12 (by omega) (by omega) (by omega) ?_
  refine ok_lushr F dX3_isReached_13 ?_
  refine ok_lconst (z := 1) F dX3_isReached_14 rfl ?_
  refine ok_land F dX3_isReached_15 ?_
  refine ok_lconst (z := 1) F dX3_isReached_16 rfl ?_
  refine ok_lif_ne F 25 dX3_isReached_17 dX3_isReached_18 (by decide) (toInt_i64 _) (by omega) (fun c_1 => ?_) (fun c_1 => ?_)
  · refine ok_iconst F dX3_isReached_25 ?_
    refine ok_zret F G dX3_isReached_26 (by first | rfl | exact zb_nar) ?_
    refine ⟨?_, rfl⟩
    rw [hl] at c_1
    by_cases y : rS mem a.toNat = true
    · first | (rw [if_pos y]; done) | (exfalso; rw [if_pos y] at c_1; omega)
    · first | (rw [if_neg y]; done) | (exfalso; rw [if_neg y] at c_1; omega)
  · refine ok_iconst F dX3_isReached_21 ?_
    refine ok_goto F 26 dX3_isReached_22 (by decide) ?_
    refine ok_zret F G dX3_isReached_26 (by first | rfl | exact zb_nar) ?_
    refine ⟨?_, rfl⟩
    rw [hl] at c_1
    by_cases y : rS mem a.toNat = true
    · first | (rw [if_pos y]; done) | (exfalso; rw [if_pos y] at c_1; omega)
    · first | (rw [if_neg y]; done) | (exfalso; rw [if_neg y] at c_1; omega)
theorem dX3_leastMissing_0 : decode cX3_leastMissing 0 = .ok (.iconst 0, 1) := by decide +kernel
theorem dX3_leastMissing_1 : decode cX3_leastMissing 1 = .ok (.istore_n 1, 1) := by decide +kernel
theorem dX3_leastMissing_2 : decode cX3_leastMissing 2 = .ok (.iload_n 1, 1) := by decide +kernel
theorem dX3_leastMissing_3 : decode cX3_leastMissing 3 = .ok (.sipush 2500, 3) := by decide +kernel
theorem dX3_leastMissing_6 : decode cX3_leastMissing 6 = .ok (.if_icmp .gt 19, 3) := by decide +kernel
theorem dX3_leastMissing_9 : decode cX3_leastMissing 9 = .ok (.aload_n 0, 1) := by decide +kernel
theorem dX3_leastMissing_10 : decode cX3_leastMissing 10 = .ok (.iload_n 1, 1) := by decide +kernel
theorem dX3_leastMissing_11 : decode cX3_leastMissing 11 = .ok (.invokevirtual 35, 3) := by decide +kernel
theorem dX3_leastMissing_14 : decode cX3_leastMissing 14 = .ok (.ifCond .ne 5, 3) := by decide +kernel
theorem dX3_leastMissing_17 : decode cX3_leastMissing 17 = .ok (.iload_n 1, 1) := by decide +kernel
theorem dX3_leastMissing_18 : decode cX3_leastMissing 18 = .ok (.ireturn, 1) := by decide +kernel
theorem dX3_leastMissing_19 : decode cX3_leastMissing 19 = .ok (.iinc 1 1, 3) := by decide +kernel
theorem dX3_leastMissing_22 : decode cX3_leastMissing 22 = .ok (.goto (-20), 3) := by decide +kernel
theorem dX3_leastMissing_25 : decode cX3_leastMissing 25 = .ok (.bipush (-2), 2) := by decide +kernel
theorem dX3_leastMissing_27 : decode cX3_leastMissing 27 = .ok (.ireturn, 1) := by decide +kernel
set_option maxHeartbeats 4000000 in
set_option maxRecDepth 100000 in
theorem m_X3_leastMissing (l : Launch) (mem : Mem) : Ret shp l yX3_leastMissing cX3_leastMissing 2 (some .int) 1 [pR 207] mem (fun rv mv => rv = some (pI (gapAt (fun a => !rS mem a) 2501 0)) ∧ mem = mv) := by
  refine ret_of (by decide +kernel) (Nat.le_of_ble_eq_true rfl) (fun X hX F G => ?_)
  show Ok shp X 2 0 [(0, pR 207)] [] mem
  refine ok_iconst F dX3_leastMissing_0 ?_
  refine ok_istore_n (lv' := [(1, pI 0), (0, pR 207)]) F dX3_leastMissing_1 (by decide) rfl ?_
  have hL_2 : ∀ (n_2 : Nat) (a : Int), (0 ≤ a ∧ a ≤ 2501 ∧ gapAt (fun a => !rS mem a) 2501 0 = gapAt (fun a => !rS mem a) (2501 - a).toNat a.toNat) → (2501 - a).toNat = n_2 → Ok shp X 2 2 [(0, pR 207), (1, pI a)] [] mem := by
    intro n_2
    induction n_2 using Nat.strongRecOn with
    | _ n_2 ih_2 =>
      intro a hI_2 hn_2
      refine ok_iload_n F dX3_leastMissing_2 1 rfl ?_
      refine ok_sipush F dX3_leastMissing_3 rfl ?_
      refine ok_icmp_gt F 25 dX3_leastMissing_6 (by decide) (by omega) (by omega) (fun c_1 => ?_) (fun c_1 => ?_)
      · refine ok_bipush F dX3_leastMissing_25 rfl ?_
        refine ok_iret F G dX3_leastMissing_27 ?_
        refine ⟨?_, rfl⟩
        rw [hI_2.2.2, show (2501 - a).toNat = 0 by omega]
        rfl
      · refine ok_aload_n F dX3_leastMissing_9 0 rfl ?_
        refine ok_iload_n F dX3_leastMissing_10 1 rfl ?_
        refine ok_callv F [pI a] dX3_leastMissing_11 kM_X3_isReached kI_X3_isReached kV_X3_isReached kL_X3_35 (ci := 3) rfl sh_207 rfl (by decide) (Nat.le_of_ble_eq_true rfl) rfl (m_X3_isReached _ a mem (by omega)) ?_
        rintro _ _ ⟨rfl, rfl⟩
        refine ok_if_ne F 19 dX3_leastMissing_14 (by decide) (by omega) (fun c_2 => ?_) (fun c_2 => ?_)
        · have hcc : rS mem a.toNat = true := by
            by_cases y : rS mem a.toNat = true
            · exact y
            · rw [if_neg y] at c_2; omega
          refine ok_iinc (lv' := [(1, pI (a + 1)), (0, pR 207)]) F dX3_leastMissing_19 1 rfl (by decide) rfl ?_
          refine ok_goto F 2 dX3_leastMissing_22 (by decide) ?_
          refine ok_lvp [1, 0] (lv' := [(0, pR 207), (1, pI (a + 1))]) rfl ?_
          refine ih_2 _ ?_ (a + 1) ?_ rfl
          · omega
          · refine ⟨by omega, by omega, ?_⟩
            rw [hI_2.2.2, show (2501 - a).toNat = (2501 - (a + 1)).toNat + 1 by omega, gapAt_s, show (a + 1).toNat = a.toNat + 1 by omega]
            cases y : rS mem a.toNat
            · exfalso; rw [y] at hcc; exact absurd hcc (by decide)
            · rw [if_neg (by decide)]
        · have hcc : ¬ rS mem a.toNat = true := fun y => by rw [if_pos y] at c_2; omega
          refine ok_iload_n F dX3_leastMissing_17 1 rfl ?_
          refine ok_iret F G dX3_leastMissing_18 ?_
          refine ⟨?_, rfl⟩
          rw [hI_2.2.2, show (2501 - a).toNat = (2501 - (a + 1)).toNat + 1 by omega, gapAt_s]
          cases y : rS mem a.toNat
          · rw [if_pos (by decide), show ((a.toNat : Nat) : Int) = a by omega]
          · exact absurd y hcc
  refine ok_lvp [1, 0] (lv' := [(0, pR 207), (1, pI 0)]) rfl ?_
  refine hL_2 _ 0 ?_ rfl
  exact ⟨by omega, by omega, rfl⟩
theorem dX3_missing_0 : decode cX3_missing 0 = .ok (.ldc2_w 39, 3) := by decide +kernel
theorem dX3_missing_3 : decode cX3_missing 3 = .ok (.lstore_n 1, 1) := by decide +kernel
theorem dX3_missing_4 : decode cX3_missing 4 = .ok (.aload_n 0, 1) := by decide +kernel
theorem dX3_missing_5 : decode cX3_missing 5 = .ok (.getfield 11, 3) := by decide +kernel
theorem dX3_missing_8 : decode cX3_missing 8 = .ok (.bipush 39, 2) := by decide +kernel
theorem dX3_missing_10 : decode cX3_missing 10 = .ok (.laload, 1) := by decide +kernel
theorem dX3_missing_11 : decode cX3_missing 11 = .ok (.lload_n 1, 1) := by decide +kernel
theorem dX3_missing_12 : decode cX3_missing 12 = .ok (.land, 1) := by decide +kernel
theorem dX3_missing_13 : decode cX3_missing 13 = .ok (.invokestatic 41, 3) := by decide +kernel
theorem dX3_missing_16 : decode cX3_missing 16 = .ok (.istore_n 3, 1) := by decide +kernel
theorem dX3_missing_17 : decode cX3_missing 17 = .ok (.iconst 0, 1) := by decide +kernel
theorem dX3_missing_18 : decode cX3_missing 18 = .ok (.istore 4, 2) := by decide +kernel
theorem dX3_missing_20 : decode cX3_missing 20 = .ok (.iload 4, 2) := by decide +kernel
theorem dX3_missing_22 : decode cX3_missing 22 = .ok (.bipush 39, 2) := by decide +kernel
theorem dX3_missing_24 : decode cX3_missing 24 = .ok (.if_icmp .ge 22, 3) := by decide +kernel
theorem dX3_missing_27 : decode cX3_missing 27 = .ok (.iload_n 3, 1) := by decide +kernel
theorem dX3_missing_28 : decode cX3_missing 28 = .ok (.aload_n 0, 1) := by decide +kernel
theorem dX3_missing_29 : decode cX3_missing 29 = .ok (.getfield 11, 3) := by decide +kernel
theorem dX3_missing_32 : decode cX3_missing 32 = .ok (.iload 4, 2) := by decide +kernel
theorem dX3_missing_34 : decode cX3_missing 34 = .ok (.laload, 1) := by decide +kernel
theorem dX3_missing_35 : decode cX3_missing 35 = .ok (.invokestatic 41, 3) := by decide +kernel
theorem dX3_missing_38 : decode cX3_missing 38 = .ok (.iadd, 1) := by decide +kernel
theorem dX3_missing_39 : decode cX3_missing 39 = .ok (.istore_n 3, 1) := by decide +kernel
theorem dX3_missing_40 : decode cX3_missing 40 = .ok (.iinc 4 1, 3) := by decide +kernel
theorem dX3_missing_43 : decode cX3_missing 43 = .ok (.goto (-23), 3) := by decide +kernel
theorem dX3_missing_46 : decode cX3_missing 46 = .ok (.sipush 2501, 3) := by decide +kernel
theorem dX3_missing_49 : decode cX3_missing 49 = .ok (.iload_n 3, 1) := by decide +kernel
theorem dX3_missing_50 : decode cX3_missing 50 = .ok (.isub, 1) := by decide +kernel
theorem dX3_missing_51 : decode cX3_missing 51 = .ok (.ireturn, 1) := by decide +kernel
set_option maxHeartbeats 4000000 in
set_option maxRecDepth 100000 in
theorem m_X3_missing (l : Launch) (mem : Mem) : Ret shp l yX3_missing cX3_missing 5 (some .int) 1 [pR 207] mem (fun rv mv => rv = some (pI (sumN (fun a => if rS mem a = true then 0 else 1) 2501)) ∧ mem = mv) := by
  refine ret_of (by decide +kernel) (Nat.le_of_ble_eq_true rfl) (fun X hX F G => ?_)
  show Ok shp X 5 0 [(0, pR 207)] [] mem
  refine ok_ldc2 (n := 31) F dX3_missing_0 kJ_X3_39 rfl ?_
  refine ok_lstore_n (lv' := [(1, pL 31), (0, pR 207)]) F dX3_missing_3 (by decide) rfl ?_
  refine ok_aload_n F dX3_missing_4 1 rfl ?_
  refine ok_getr F dX3_missing_5 kF_X3_11 sh_207 rfl ?_
  refine ok_bipush F dX3_missing_8 rfl ?_
  refine ok_lald (v := mem 208 39) F dX3_missing_10 sh_208 (by first | decide | assumption) (by omega) (by omega) rfl ?_
  refine ok_lload_n F dX3_missing_11 0 rfl ?_
  refine ok_land F dX3_missing_12 ?_
  refine ok_calls F [pL (land (mem 208 39) 31)] dX3_missing_13 kM_J13_bitCount_95d88 kS_J13_bitCount_95d88 kL_X3_41 rfl (by decide) (Nat.le_of_ble_eq_true rfl) rfl (m_bitCount _ (land (mem 208 39) 31) mem) ?_
  rintro _ _ ⟨rfl, rfl⟩
  refine ok_istore_n (lv' := [(3, pI ((cntB (UB (land (mem 208 39) 31)) 64 : Nat) : Int)), (1, pL 31), (0, pR 207)]) F dX3_missing_16 (by decide) rfl ?_
  refine ok_iconst F dX3_missing_17 ?_
  refine ok_istore (lv' := [(4, pI 0), (3, pI ((cntB (UB (land (mem 208 39) 31)) 64 : Nat) : Int)), (1, pL 31), (0, pR 207)]) F dX3_missing_18 (by decide) rfl ?_
  have hL_20 : ∀ (n_20 : Nat) (n : Int) (i : Int), (0 ≤ i ∧ i ≤ 39 ∧ n = ((cntB (UB (land (mem 208 39) 31)) 64 : Nat) : Int) + sumN (fun j => ((cntB (UB (mem 208 j)) 64 : Nat) : Int)) i.toNat) → (39 - i).toNat = n_20 → Ok shp X 5 20 [(0, pR 207), (1, pL 31), (3, pI n), (4, pI i)] [] mem := by
    intro n_20
    induction n_20 using Nat.strongRecOn with
    | _ n_20 ih_20 =>
      intro n i hI_20 hn_20
      refine ok_iload F dX3_missing_20 3 rfl ?_
      refine ok_bipush F dX3_missing_22 rfl ?_
      refine ok_icmp_ge F 46 dX3_missing_24 (by decide) (by omega) (by omega) (fun c_1 => ?_) (fun c_1 => ?_)
      · refine ok_sipush F dX3_missing_46 rfl ?_
        refine ok_iload_n F dX3_missing_49 2 rfl ?_
        refine ok_isub F dX3_missing_50 ?_
        refine ok_iret F G dX3_missing_51 ?_
        refine ⟨?_, rfl⟩
        rw [miss_all, hI_20.2.2, show i.toNat = 39 by omega]
      · refine ok_iload_n F dX3_missing_27 2 rfl ?_
        refine ok_aload_n F dX3_missing_28 0 rfl ?_
        refine ok_getr F dX3_missing_29 kF_X3_11 sh_207 rfl ?_
        refine ok_iload F dX3_missing_32 3 rfl ?_
        refine ok_lald (v := mem 208 i.toNat) F dX3_missing_34 sh_208 (by first | decide | assumption) (by omega) (by omega) rfl ?_
        refine ok_calls F [pL (mem 208 i.toNat)] dX3_missing_35 kM_J13_bitCount_95d88 kS_J13_bitCount_95d88 kL_X3_41 rfl (by decide) (Nat.le_of_ble_eq_true rfl) rfl (m_bitCount _ (mem 208 i.toNat) mem) ?_
        rintro _ _ ⟨rfl, rfl⟩
        refine ok_iadd F dX3_missing_38 ?_
        refine ok_istore_n (lv' := [(3, pI (n + ((cntB (UB (mem 208 i.toNat)) 64 : Nat) : Int))), (0, pR 207), (1, pL 31), (4, pI i)]) F dX3_missing_39 (by decide) rfl ?_
        refine ok_iinc (lv' := [(4, pI (i + 1)), (3, pI (n + ((cntB (UB (mem 208 i.toNat)) 64 : Nat) : Int))), (0, pR 207), (1, pL 31)]) F dX3_missing_40 3 rfl (by decide) rfl ?_
        refine ok_goto F 20 dX3_missing_43 (by decide) ?_
        refine ok_lvp [2, 3, 1, 0] (lv' := [(0, pR 207), (1, pL 31), (3, pI (n + ((cntB (UB (mem 208 i.toNat)) 64 : Nat) : Int))), (4, pI (i + 1))]) rfl ?_
        refine ih_20 _ ?_ (n + ((cntB (UB (mem 208 i.toNat)) 64 : Nat) : Int)) (i + 1) ?_ rfl
        · omega
        · refine ⟨by omega, by omega, ?_⟩
          rw [sumN_s _ hI_20.1, hI_20.2.2, Int.add_assoc]
  refine ok_lvp [3, 2, 1, 0] (lv' := [(0, pR 207), (1, pL 31), (3, pI ((cntB (UB (land (mem 208 39) 31)) 64 : Nat) : Int)), (4, pI 0)]) rfl ?_
  refine hL_20 _ ((cntB (UB (land (mem 208 39) 31)) 64 : Nat) : Int) 0 ?_ rfl
  exact ⟨by omega, by omega, (Int.add_zero _).symm⟩
