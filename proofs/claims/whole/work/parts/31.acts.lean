/-! the class: the tape, the past, the shelves, the acts that reckon nothing, what is told at once -/
theorem cpyS_cell {mem mv : Mem} {b c n a : Nat} (h : mv = cpyS mem b c n) (ha : a < b ∨ b + n ≤ a) : mv a = mem a := by rw [h]; exact cpyS_ne ha
theorem pastAt {i : Nat} (h : i < 10) : ([43, 54, 65, 76, 87, 98, 109, 120, 131, 142] : List Nat)[i]? = some (stB (2 + i)) := by
  have : ∀ i, i < 10 → ([43, 54, 65, 76, 87, 98, 109, 120, 131, 142] : List Nat)[i]? = some (stB (2 + i)) := by decide
  exact this i h
theorem shelfAt {i : Nat} (h : i < 2) : ([153, 164] : List Nat)[i]? = some (stB (12 + i)) := by
  have : ∀ i, i < 2 → ([153, 164] : List Nat)[i]? = some (stB (12 + i)) := by decide
  exact this i h
theorem shRow {i : Nat} (h : i < 7) : shp[22 + i]? = some (.inr (.inl (0, 8))) := by
  have g : i = 0 ∨ i = 1 ∨ i = 2 ∨ i = 3 ∨ i = 4 ∨ i = 5 ∨ i = 6 := by omega
  rcases g with rfl | rfl | rfl | rfl | rfl | rfl | rfl <;> rfl
theorem shRow3 {i : Nat} (h : i < 4) : shp[23 + i]? = some (.inr (.inl (0, 8))) := by
  have g : i = 0 ∨ i = 1 ∨ i = 2 ∨ i = 3 := by omega
  rcases g with rfl | rfl | rfl | rfl <;> rfl
/-- what an act leaves behind: now is copied into the ring of ten -/
def remM (mem : Mem) : Mem := mset (mset (cpyS mem (stB (2 + (mem 20 5).toNat)) 21 11) 20 5 ((mem 20 5 + 1).tmod 10)) 20 6 (min (mem 20 6 + 1) 10)
theorem remM_at {mem mv : Mem} {a : Nat} (h : mv = remM mem) (hp : 0 ≤ mem 20 5 ∧ mem 20 5 ≤ 9) (ha : a ≠ 20 ∧ (a < 43 ∨ 153 ≤ a)) : mv a = mem a := by
  rw [h]
  funext b
  unfold remM
  rw [mset_nk ha.1, mset_nk ha.1, cpyS_ne (by unfold stB; omega)]
/-- n of a number's four bytes behind the tape -/
def fdN (mem : Mem) (v : Int) (n : Nat) : Mem := fun a b => if a = 176 ∧ (mem 20 3).toNat ≤ b ∧ b < (mem 20 3).toNat + n then iand (iushr v (24 - 8 * ((b - (mem 20 3).toNat : Nat) : Int))) 255 else if a = 20 ∧ b = 3 then mem 20 3 + n else mem a b
theorem fdN_0 (mem : Mem) (v : Int) : fdN mem v 0 = mem := by
  funext a b
  unfold fdN
  rw [if_neg (by omega)]
  by_cases h : a = 20 ∧ b = 3
  · obtain ⟨rfl, rfl⟩ := h
    rw [if_pos ⟨rfl, rfl⟩]
    omega
  · rw [if_neg h]
theorem fdN_T (mem : Mem) (v : Int) (n : Nat) : fdN mem v n 20 3 = mem 20 3 + n := by
  unfold fdN
  rw [if_neg (by omega), if_pos ⟨rfl, rfl⟩]
theorem fdN_s {mem : Mem} {v : Int} {n : Nat} (h : 0 ≤ mem 20 3) : mset (mset (fdN mem v n) 176 (fdN mem v n 20 3).toNat (iand (iushr v (24 - 8 * (n : Int))) 255)) 20 3 (fdN mem v n 20 3 + 1) = fdN mem v (n + 1) := by
  rw [fdN_T]
  funext a b
  unfold mset
  by_cases h1 : a = 20 ∧ b = 3
  · obtain ⟨rfl, rfl⟩ := h1
    rw [if_pos ⟨rfl, rfl⟩, fdN_T]
    omega
  · rw [if_neg h1]
    by_cases h2 : a = 176 ∧ b = (mem 20 3 + (n : Int)).toNat
    · obtain ⟨rfl, rfl⟩ := h2
      rw [if_pos ⟨rfl, rfl⟩]
      unfold fdN
      rw [if_pos (by omega), show (((mem 20 3 + (n : Int)).toNat - (mem 20 3).toNat : Nat) : Int) = n by omega]
    · rw [if_neg h2]
      unfold fdN
      by_cases h3 : a = 176 ∧ (mem 20 3).toNat ≤ b ∧ b < (mem 20 3).toNat + n
      · rw [if_pos h3, if_pos (by omega)]
      · rw [if_neg h3, if_neg h1, if_neg (by omega), if_neg h1]
def feedC (mem : Mem) (a b c d e : Int) : Mem := fdN (fdN (fdN (fdN (fdN mem a 4) b 4) c 4) d 4) e 4
/-- above its limit, of a kind -/
def abvC (mem : Mem) (k : Nat) : Int := max 0 (mem 23 k - mem 25 k)
def bankC (mem : Mem) (n : Nat) : Mem := fun a b => if a = 23 ∧ b < n then mem 23 b - abvC mem b else if a = 28 ∧ b < n then mem 28 b + abvC mem b else mem a b
theorem bankC_0 (mem : Mem) : bankC mem 0 = mem := by
  funext a b
  unfold bankC
  rw [if_neg (by omega), if_neg (by omega)]
theorem bankC_at {mem : Mem} {n k : Nat} (h : n ≤ k) : bankC mem n 23 k = mem 23 k ∧ bankC mem n 25 k = mem 25 k ∧ bankC mem n 28 k = mem 28 k := by
  refine ⟨?_, ?_, ?_⟩ <;> (unfold bankC; rw [if_neg (by omega), if_neg (by omega)])
theorem bankC_s (mem : Mem) (n : Nat) : mset (mset (bankC mem n) 23 n (mem 23 n - abvC mem n)) 28 n (mem 28 n + abvC mem n) = bankC mem (n + 1) := by
  funext a b
  unfold mset
  by_cases h1 : a = 28 ∧ b = n
  · obtain ⟨rfl, rfl⟩ := h1
    rw [if_pos ⟨rfl, rfl⟩]
    unfold bankC
    rw [if_neg (by omega), if_pos (by omega)]
  · rw [if_neg h1]
    by_cases h2 : a = 23 ∧ b = n
    · obtain ⟨rfl, rfl⟩ := h2
      rw [if_pos ⟨rfl, rfl⟩]
      unfold bankC
      rw [if_pos (by omega)]
    · rw [if_neg h2]
      unfold bankC
      by_cases h3 : a = 23 ∧ b < n
      · rw [if_pos h3, if_pos (by omega)]
      · rw [if_neg h3]
        by_cases h4 : a = 28 ∧ b < n
        · rw [if_pos h4, if_neg (by omega), if_pos (by omega)]
        · rw [if_neg h4, if_neg (by omega), if_neg (by omega)]
def undoC (mem : Mem) : Mem := mset (cpyS (mset mem 20 5 ((mem 20 5 + 10 - 1).tmod 10)) 21 (stB (2 + ((mem 20 5 + 10 - 1).tmod 10).toNat)) 11) 20 6 (mem 20 6 - 1)
def keepC (mem : Mem) (k : Int) : Mem := mset (cpyS mem (stB (12 + k.toNat)) 21 11) 20 8 (ior (mem 20 8) (ishl 1 k))
def backC (mem : Mem) (k : Int) : Mem := mset (cpyS mem 21 (stB (12 + k.toNat)) 11) 20 6 0
theorem tmod10 {x : Int} (h : 0 ≤ x) : 0 ≤ x.tmod 10 ∧ x.tmod 10 ≤ 9 := by
  rw [Int.tmod_eq_emod_of_nonneg h]; omega
theorem ior_0' (x : Int32) : (Int32.ofInt x.toInt ||| Int32.ofInt 0) = x := by
  rw [Int32.ofInt_toInt]
  exact Int32.or_zero
theorem bitsN_ior0 (f : Nat → Bool) : ∀ n : Nat, ior (bitsN f n) 0 = bitsN f n
  | 0 => by
    show ior 0 0 = 0
    decide +kernel
  | n + 1 => by
    show (Int32.ofInt (Int32.toInt _) ||| Int32.ofInt 0).toInt = _
    rw [ior_0']
    rfl
theorem dX7_feedNumber_0 : decode cX7_feedNumber 0 = .ok (.bipush 24, 2) := by decide +kernel
theorem dX7_feedNumber_2 : decode cX7_feedNumber 2 = .ok (.istore_n 2, 1) := by decide +kernel
theorem dX7_feedNumber_3 : decode cX7_feedNumber 3 = .ok (.iload_n 2, 1) := by decide +kernel
theorem dX7_feedNumber_4 : decode cX7_feedNumber 4 = .ok (.ifCond .lt 52, 3) := by decide +kernel
theorem dX7_feedNumber_7 : decode cX7_feedNumber 7 = .ok (.aload_n 0, 1) := by decide +kernel
theorem dX7_feedNumber_8 : decode cX7_feedNumber 8 = .ok (.getfield 81, 3) := by decide +kernel
theorem dX7_feedNumber_11 : decode cX7_feedNumber 11 = .ok (.ifCond .lt 45, 3) := by decide +kernel
theorem dX7_feedNumber_14 : decode cX7_feedNumber 14 = .ok (.aload_n 0, 1) := by decide +kernel
theorem dX7_feedNumber_15 : decode cX7_feedNumber 15 = .ok (.getfield 81, 3) := by decide +kernel
theorem dX7_feedNumber_18 : decode cX7_feedNumber 18 = .ok (.sipush 400, 3) := by decide +kernel
theorem dX7_feedNumber_21 : decode cX7_feedNumber 21 = .ok (.if_icmp .ge 35, 3) := by decide +kernel
theorem dX7_feedNumber_24 : decode cX7_feedNumber 24 = .ok (.aload_n 0, 1) := by decide +kernel
theorem dX7_feedNumber_25 : decode cX7_feedNumber 25 = .ok (.getfield 27, 3) := by decide +kernel
theorem dX7_feedNumber_28 : decode cX7_feedNumber 28 = .ok (.aload_n 0, 1) := by decide +kernel
theorem dX7_feedNumber_29 : decode cX7_feedNumber 29 = .ok (.getfield 81, 3) := by decide +kernel
theorem dX7_feedNumber_32 : decode cX7_feedNumber 32 = .ok (.iload_n 1, 1) := by decide +kernel
theorem dX7_feedNumber_33 : decode cX7_feedNumber 33 = .ok (.iload_n 2, 1) := by decide +kernel
theorem dX7_feedNumber_34 : decode cX7_feedNumber 34 = .ok (.iushr, 1) := by decide +kernel
theorem dX7_feedNumber_35 : decode cX7_feedNumber 35 = .ok (.sipush 255, 3) := by decide +kernel
theorem dX7_feedNumber_38 : decode cX7_feedNumber 38 = .ok (.iand, 1) := by decide +kernel
theorem dX7_feedNumber_39 : decode cX7_feedNumber 39 = .ok (.iastore, 1) := by decide +kernel
theorem dX7_feedNumber_40 : decode cX7_feedNumber 40 = .ok (.aload_n 0, 1) := by decide +kernel
theorem dX7_feedNumber_41 : decode cX7_feedNumber 41 = .ok (.dup, 1) := by decide +kernel
theorem dX7_feedNumber_42 : decode cX7_feedNumber 42 = .ok (.getfield 81, 3) := by decide +kernel
theorem dX7_feedNumber_45 : decode cX7_feedNumber 45 = .ok (.iconst 1, 1) := by decide +kernel
theorem dX7_feedNumber_46 : decode cX7_feedNumber 46 = .ok (.iadd, 1) := by decide +kernel
theorem dX7_feedNumber_47 : decode cX7_feedNumber 47 = .ok (.putfield 81, 3) := by decide +kernel
theorem dX7_feedNumber_50 : decode cX7_feedNumber 50 = .ok (.iinc 2 (-8), 3) := by decide +kernel
theorem dX7_feedNumber_53 : decode cX7_feedNumber 53 = .ok (.goto (-50), 3) := by decide +kernel
theorem dX7_feedNumber_56 : decode cX7_feedNumber 56 = .ok (.return_, 1) := by decide +kernel
set_option maxHeartbeats 4000000 in
set_option maxRecDepth 100000 in
theorem m_X7_feedNumber (l : Launch) (v : Int) (mem : Mem) (hT : 0 ≤ mem 20 3 ∧ mem 20 3 ≤ 396) : Ret shp l yX7_feedNumber cX7_feedNumber 3 none 0 [pR 20, pI v] mem (fun rv mv => rv = none ∧ mv = fdN mem v 4) := by
  refine ret_of (by decide +kernel) (Nat.le_of_ble_eq_true rfl) (fun X hX F G => ?_)
  show Ok shp X 3 0 [(0, pR 20), (1, pI v)] [] mem
  refine ok_bipush F dX7_feedNumber_0 rfl ?_
  refine ok_istore_n (lv' := [(2, pI 24), (0, pR 20), (1, pI v)]) F dX7_feedNumber_2 (by decide) rfl ?_
  have hL_3 : ∀ (n_3 : Nat) (k : Int) (m : Mem), (∃ n : Nat, n ≤ 4 ∧ k = 24 - 8 * (n : Int) ∧ m = fdN mem v n) → (k + 8).toNat = n_3 → Ok shp X 3 3 [(0, pR 20), (1, pI v), (2, pI k)] [] m := by
    intro n_3
    induction n_3 using Nat.strongRecOn with
    | _ n_3 ih_3 =>
      intro k m hI_3 hn_3
      obtain ⟨i, hi, hk, hm⟩ := hI_3
      have hT2 := fdN_T mem v i
      rw [← hm] at hT2
      refine ok_iload_n F dX7_feedNumber_3 2 rfl ?_
      refine ok_if_lt F 56 dX7_feedNumber_4 (by decide) (by omega) (fun c_1 => ?_) (fun c_1 => ?_)
      · refine ok_vret F G dX7_feedNumber_56 ?_
        exact ⟨rfl, by rw [hm, show i = 4 by omega]⟩
      · refine ok_aload_n F dX7_feedNumber_7 0 rfl ?_
        refine ok_getf (v := m 20 3) F dX7_feedNumber_8 kF_X7_81 sh_20 rfl rfl ?_
        refine ok_if_lt F 56 dX7_feedNumber_11 (by decide) (by omega) (fun c_2 => ?_) (fun c_2 => ?_)
        · exfalso; omega
        · refine ok_aload_n F dX7_feedNumber_14 0 rfl ?_
          refine ok_getf (v := m 20 3) F dX7_feedNumber_15 kF_X7_81 sh_20 rfl rfl ?_
          refine ok_sipush F dX7_feedNumber_18 rfl ?_
          refine ok_icmp_ge F 56 dX7_feedNumber_21 (by decide) (by omega) (by omega) (fun c_3 => ?_) (fun c_3 => ?_)
          · exfalso; omega
          · refine ok_aload_n F dX7_feedNumber_24 0 rfl ?_
            refine ok_getr F dX7_feedNumber_25 kF_X7_27 sh_20 rfl ?_
            refine ok_aload_n F dX7_feedNumber_28 0 rfl ?_
            refine ok_getf (v := m 20 3) F dX7_feedNumber_29 kF_X7_81 sh_20 rfl rfl ?_
            refine ok_iload_n F dX7_feedNumber_32 1 rfl ?_
            refine ok_iload_n F dX7_feedNumber_33 2 rfl ?_
            refine ok_iushr F dX7_feedNumber_34 ?_
            refine ok_sipush F dX7_feedNumber_35 rfl ?_
            refine ok_iand F dX7_feedNumber_38 ?_
            refine ok_iast F dX7_feedNumber_39 sh_176 (by first | decide | assumption) (by omega) (by omega) (fun m_4 e_5 => ?_)
            refine ok_aload_n F dX7_feedNumber_40 0 rfl ?_
            refine ok_dup F dX7_feedNumber_41 rfl ?_
            refine ok_getf (v := m 20 3) F dX7_feedNumber_42 kF_X7_81 sh_20 rfl (by rw [e_5, mset_nk (by decide)] <;> rfl) ?_
            refine ok_iconst F dX7_feedNumber_45 ?_
            refine ok_iadd F dX7_feedNumber_46 ?_
            refine ok_putf F dX7_feedNumber_47 kF_X7_81 sh_20 rfl rfl rfl (fun m_6 e_7 => ?_)
            refine ok_iinc (lv' := [(2, pI (k + (-8))), (0, pR 20), (1, pI v)]) F dX7_feedNumber_50 2 rfl (by decide) rfl ?_
            refine ok_goto F 3 dX7_feedNumber_53 (by decide) ?_
            refine ok_lvp [1, 2, 0] (lv' := [(0, pR 20), (1, pI v), (2, pI (k + (-8)))]) rfl ?_
            refine ih_3 _ ?_ (k + (-8)) m_6 ?_ rfl
            · omega
            · refine ⟨i + 1, by omega, by omega, ?_⟩
              rw [e_7, e_5, hk, hm]
              exact fdN_s hT.1
  refine ok_lvp [1, 2, 0] (lv' := [(0, pR 20), (1, pI v), (2, pI 24)]) rfl ?_
  refine hL_3 _ 24 mem ?_ rfl
  exact ⟨0, by omega, rfl, (fdN_0 _ _).symm⟩
theorem dX7_feed_0 : decode cX7_feed 0 = .ok (.aload_n 0, 1) := by decide +kernel
theorem dX7_feed_1 : decode cX7_feed 1 = .ok (.getfield 81, 3) := by decide +kernel
theorem dX7_feed_4 : decode cX7_feed 4 = .ok (.bipush 20, 2) := by decide +kernel
theorem dX7_feed_6 : decode cX7_feed 6 = .ok (.iadd, 1) := by decide +kernel
theorem dX7_feed_7 : decode cX7_feed 7 = .ok (.sipush 400, 3) := by decide +kernel
theorem dX7_feed_10 : decode cX7_feed 10 = .ok (.if_icmp .le 5, 3) := by decide +kernel
theorem dX7_feed_13 : decode cX7_feed 13 = .ok (.iconst (-1), 1) := by decide +kernel
theorem dX7_feed_14 : decode cX7_feed 14 = .ok (.ireturn, 1) := by decide +kernel
theorem dX7_feed_15 : decode cX7_feed 15 = .ok (.aload_n 0, 1) := by decide +kernel
theorem dX7_feed_16 : decode cX7_feed 16 = .ok (.iload_n 1, 1) := by decide +kernel
theorem dX7_feed_17 : decode cX7_feed 17 = .ok (.invokevirtual 85, 3) := by decide +kernel
theorem dX7_feed_20 : decode cX7_feed 20 = .ok (.aload_n 0, 1) := by decide +kernel
theorem dX7_feed_21 : decode cX7_feed 21 = .ok (.iload_n 2, 1) := by decide +kernel
theorem dX7_feed_22 : decode cX7_feed 22 = .ok (.invokevirtual 85, 3) := by decide +kernel
theorem dX7_feed_25 : decode cX7_feed 25 = .ok (.aload_n 0, 1) := by decide +kernel
theorem dX7_feed_26 : decode cX7_feed 26 = .ok (.iload_n 3, 1) := by decide +kernel
theorem dX7_feed_27 : decode cX7_feed 27 = .ok (.invokevirtual 85, 3) := by decide +kernel
theorem dX7_feed_30 : decode cX7_feed 30 = .ok (.aload_n 0, 1) := by decide +kernel
theorem dX7_feed_31 : decode cX7_feed 31 = .ok (.iload 4, 2) := by decide +kernel
theorem dX7_feed_33 : decode cX7_feed 33 = .ok (.invokevirtual 85, 3) := by decide +kernel
theorem dX7_feed_36 : decode cX7_feed 36 = .ok (.aload_n 0, 1) := by decide +kernel
theorem dX7_feed_37 : decode cX7_feed 37 = .ok (.iload 5, 2) := by decide +kernel
theorem dX7_feed_39 : decode cX7_feed 39 = .ok (.invokevirtual 85, 3) := by decide +kernel
theorem dX7_feed_42 : decode cX7_feed 42 = .ok (.aload_n 0, 1) := by decide +kernel
theorem dX7_feed_43 : decode cX7_feed 43 = .ok (.getfield 81, 3) := by decide +kernel
theorem dX7_feed_46 : decode cX7_feed 46 = .ok (.ireturn, 1) := by decide +kernel
set_option maxHeartbeats 4000000 in
set_option maxRecDepth 100000 in
theorem m_X7_feed (l : Launch) (a : Int) (b : Int) (c : Int) (d : Int) (e : Int) (mem : Mem) (hT : 0 ≤ mem 20 3 ∧ mem 20 3 ≤ 400) : Ret shp l yX7_feed cX7_feed 6 (some .int) 1 [pR 20, pI a, pI b, pI c, pI d, pI e] mem (fun rv mv => rv = some (pI (if 400 < mem 20 3 + 20 then -1 else mem 20 3 + 20)) ∧ mv = if 400 < mem 20 3 + 20 then mem else feedC mem a b c d e) := by
  refine ret_of (by decide +kernel) (Nat.le_of_ble_eq_true rfl) (fun X hX F G => ?_)
  show Ok shp X 6 0 [(0, pR 20), (1, pI a), (2, pI b), (3, pI c), (4, pI d), (5, pI e)] [] mem
  refine ok_aload_n F dX7_feed_0 0 rfl ?_
  refine ok_getf (v := mem 20 3) F dX7_feed_1 kF_X7_81 sh_20 rfl rfl ?_
  refine ok_bipush F dX7_feed_4 rfl ?_
  refine ok_iadd F dX7_feed_6 ?_
  refine ok_sipush F dX7_feed_7 rfl ?_
  refine ok_icmp_le F 15 dX7_feed_10 (by decide) (by omega) (by omega) (fun c_1 => ?_) (fun c_1 => ?_)
  · refine ok_aload_n F dX7_feed_15 0 rfl ?_
    refine ok_iload_n F dX7_feed_16 1 rfl ?_
    refine ok_callv F [pI a] dX7_feed_17 kM_X7_feedNumber kI_X7_feedNumber kV_X7_feedNumber kL_X7_85 (ci := 7) rfl sh_20 rfl (by decide) (Nat.le_of_ble_eq_true rfl) rfl (m_X7_feedNumber _ a mem (by first | omega | (subst_vars; simp only [fdN_T]; omega))) ?_
    rintro _ m_2 ⟨rfl, e_3⟩
    refine ok_aload_n F dX7_feed_20 0 rfl ?_
    refine ok_iload_n F dX7_feed_21 2 rfl ?_
    refine ok_callv F [pI b] dX7_feed_22 kM_X7_feedNumber kI_X7_feedNumber kV_X7_feedNumber kL_X7_85 (ci := 7) rfl sh_20 rfl (by decide) (Nat.le_of_ble_eq_true rfl) rfl (m_X7_feedNumber _ b m_2 (by first | omega | (subst_vars; simp only [fdN_T]; omega))) ?_
    rintro _ m_4 ⟨rfl, e_5⟩
    refine ok_aload_n F dX7_feed_25 0 rfl ?_
    refine ok_iload_n F dX7_feed_26 3 rfl ?_
    refine ok_callv F [pI c] dX7_feed_27 kM_X7_feedNumber kI_X7_feedNumber kV_X7_feedNumber kL_X7_85 (ci := 7) rfl sh_20 rfl (by decide) (Nat.le_of_ble_eq_true rfl) rfl (m_X7_feedNumber _ c m_4 (by first | omega | (subst_vars; simp only [fdN_T]; omega))) ?_
    rintro _ m_6 ⟨rfl, e_7⟩
    refine ok_aload_n F dX7_feed_30 0 rfl ?_
    refine ok_iload F dX7_feed_31 4 rfl ?_
    refine ok_callv F [pI d] dX7_feed_33 kM_X7_feedNumber kI_X7_feedNumber kV_X7_feedNumber kL_X7_85 (ci := 7) rfl sh_20 rfl (by decide) (Nat.le_of_ble_eq_true rfl) rfl (m_X7_feedNumber _ d m_6 (by first | omega | (subst_vars; simp only [fdN_T]; omega))) ?_
    rintro _ m_8 ⟨rfl, e_9⟩
    refine ok_aload_n F dX7_feed_36 0 rfl ?_
    refine ok_iload F dX7_feed_37 5 rfl ?_
    refine ok_callv F [pI e] dX7_feed_39 kM_X7_feedNumber kI_X7_feedNumber kV_X7_feedNumber kL_X7_85 (ci := 7) rfl sh_20 rfl (by decide) (Nat.le_of_ble_eq_true rfl) rfl (m_X7_feedNumber _ e m_8 (by first | omega | (subst_vars; simp only [fdN_T]; omega))) ?_
    rintro _ m_10 ⟨rfl, e_11⟩
    refine ok_aload_n F dX7_feed_42 0 rfl ?_
    refine ok_getf (v := m_10 20 3) F dX7_feed_43 kF_X7_81 sh_20 rfl rfl ?_
    refine ok_iret F G dX7_feed_46 ?_
    subst_vars
    exact ⟨by rw [if_neg (by omega)]; simp only [fdN_T]; congr 2; omega, by rw [if_neg (by omega)]; rfl⟩
  · refine ok_iconst F dX7_feed_13 ?_
    refine ok_iret F G dX7_feed_14 ?_
    exact ⟨by rw [if_pos (by omega)], by rw [if_pos (by omega)]⟩
theorem dX7_end_0 : decode cX7_end 0 = .ok (.iload_n 1, 1) := by decide +kernel
theorem dX7_end_1 : decode cX7_end 1 = .ok (.ifCond .lt 11, 3) := by decide +kernel
theorem dX7_end_4 : decode cX7_end 4 = .ok (.iload_n 1, 1) := by decide +kernel
theorem dX7_end_5 : decode cX7_end 5 = .ok (.aload_n 0, 1) := by decide +kernel
theorem dX7_end_6 : decode cX7_end 6 = .ok (.getfield 81, 3) := by decide +kernel
theorem dX7_end_9 : decode cX7_end 9 = .ok (.if_icmp .le 5, 3) := by decide +kernel
theorem dX7_end_12 : decode cX7_end 12 = .ok (.iconst (-1), 1) := by decide +kernel
theorem dX7_end_13 : decode cX7_end 13 = .ok (.ireturn, 1) := by decide +kernel
theorem dX7_end_14 : decode cX7_end 14 = .ok (.aload_n 0, 1) := by decide +kernel
theorem dX7_end_15 : decode cX7_end 15 = .ok (.iload_n 1, 1) := by decide +kernel
theorem dX7_end_16 : decode cX7_end 16 = .ok (.putfield 81, 3) := by decide +kernel
theorem dX7_end_19 : decode cX7_end 19 = .ok (.iload_n 1, 1) := by decide +kernel
theorem dX7_end_20 : decode cX7_end 20 = .ok (.ireturn, 1) := by decide +kernel
set_option maxHeartbeats 4000000 in
set_option maxRecDepth 100000 in
theorem m_X7_end (l : Launch) (n : Int) (mem : Mem) (hT : 0 ≤ mem 20 3 ∧ mem 20 3 ≤ 400) (hn : i32 n) : Ret shp l yX7_end cX7_end 2 (some .int) 0 [pR 20, pI n] mem (fun rv mv => rv = some (pI (if n < 0 ∨ mem 20 3 < n then -1 else n)) ∧ mv = if n < 0 ∨ mem 20 3 < n then mem else mset mem 20 3 n) := by
  refine ret_of (by decide +kernel) (Nat.le_of_ble_eq_true rfl) (fun X hX F G => ?_)
  show Ok shp X 2 0 [(0, pR 20), (1, pI n)] [] mem
  refine ok_iload_n F dX7_end_0 1 rfl ?_
  refine ok_if_lt F 12 dX7_end_1 (by decide) (by omega) (fun c_1 => ?_) (fun c_1 => ?_)
  · refine ok_iconst F dX7_end_12 ?_
    refine ok_iret F G dX7_end_13 ?_
    exact ⟨by rw [if_pos (by omega)], by rw [if_pos (by omega)]⟩
  · refine ok_iload_n F dX7_end_4 1 rfl ?_
    refine ok_aload_n F dX7_end_5 0 rfl ?_
    refine ok_getf (v := mem 20 3) F dX7_end_6 kF_X7_81 sh_20 rfl rfl ?_
    refine ok_icmp_le F 14 dX7_end_9 (by decide) (by omega) (by omega) (fun c_2 => ?_) (fun c_2 => ?_)
    · refine ok_aload_n F dX7_end_14 0 rfl ?_
      refine ok_iload_n F dX7_end_15 1 rfl ?_
      refine ok_putf F dX7_end_16 kF_X7_81 sh_20 rfl rfl rfl (fun m_3 e_4 => ?_)
      refine ok_iload_n F dX7_end_19 1 rfl ?_
      refine ok_iret F G dX7_end_20 ?_
      exact ⟨by rw [if_neg (by omega)], by rw [if_neg (by omega), e_4]⟩
    · refine ok_iconst F dX7_end_12 ?_
      refine ok_iret F G dX7_end_13 ?_
      exact ⟨by rw [if_pos (by omega)], by rw [if_pos (by omega)]⟩
theorem dX7_remember_0 : decode cX7_remember 0 = .ok (.aload_n 0, 1) := by decide +kernel
theorem dX7_remember_1 : decode cX7_remember 1 = .ok (.getfield 28, 3) := by decide +kernel
theorem dX7_remember_4 : decode cX7_remember 4 = .ok (.aload_n 0, 1) := by decide +kernel
theorem dX7_remember_5 : decode cX7_remember 5 = .ok (.getfield 203, 3) := by decide +kernel
theorem dX7_remember_8 : decode cX7_remember 8 = .ok (.aaload, 1) := by decide +kernel
theorem dX7_remember_9 : decode cX7_remember 9 = .ok (.aload_n 0, 1) := by decide +kernel
theorem dX7_remember_10 : decode cX7_remember 10 = .ok (.getfield 10, 3) := by decide +kernel
theorem dX7_remember_13 : decode cX7_remember 13 = .ok (.invokevirtual 96, 3) := by decide +kernel
theorem dX7_remember_16 : decode cX7_remember 16 = .ok (.aload_n 0, 1) := by decide +kernel
theorem dX7_remember_17 : decode cX7_remember 17 = .ok (.aload_n 0, 1) := by decide +kernel
theorem dX7_remember_18 : decode cX7_remember 18 = .ok (.getfield 203, 3) := by decide +kernel
theorem dX7_remember_21 : decode cX7_remember 21 = .ok (.iconst 1, 1) := by decide +kernel
theorem dX7_remember_22 : decode cX7_remember 22 = .ok (.iadd, 1) := by decide +kernel
theorem dX7_remember_23 : decode cX7_remember 23 = .ok (.bipush 10, 2) := by decide +kernel
theorem dX7_remember_25 : decode cX7_remember 25 = .ok (.irem, 1) := by decide +kernel
theorem dX7_remember_26 : decode cX7_remember 26 = .ok (.putfield 203, 3) := by decide +kernel
theorem dX7_remember_29 : decode cX7_remember 29 = .ok (.aload_n 0, 1) := by decide +kernel
theorem dX7_remember_30 : decode cX7_remember 30 = .ok (.aload_n 0, 1) := by decide +kernel
theorem dX7_remember_31 : decode cX7_remember 31 = .ok (.getfield 100, 3) := by decide +kernel
theorem dX7_remember_34 : decode cX7_remember 34 = .ok (.iconst 1, 1) := by decide +kernel
theorem dX7_remember_35 : decode cX7_remember 35 = .ok (.iadd, 1) := by decide +kernel
theorem dX7_remember_36 : decode cX7_remember 36 = .ok (.bipush 10, 2) := by decide +kernel
theorem dX7_remember_38 : decode cX7_remember 38 = .ok (.invokestatic 206, 3) := by decide +kernel
theorem dX7_remember_41 : decode cX7_remember 41 = .ok (.putfield 100, 3) := by decide +kernel
theorem dX7_remember_44 : decode cX7_remember 44 = .ok (.return_, 1) := by decide +kernel
set_option maxHeartbeats 4000000 in
set_option maxRecDepth 100000 in
theorem m_X7_remember (l : Launch) (mem : Mem) (hPn : 0 ≤ mem 20 5 ∧ mem 20 5 ≤ 9) (hPa : 0 ≤ mem 20 6 ∧ mem 20 6 ≤ 10) : Ret shp l yX7_remember cX7_remember 1 none 3 [pR 20] mem (fun rv mv => rv = none ∧ mv = remM mem) := by
  refine ret_of (by decide +kernel) (Nat.le_of_ble_eq_true rfl) (fun X hX F G => ?_)
  show Ok shp X 1 0 [(0, pR 20)] [] mem
  refine ok_aload_n F dX7_remember_0 0 rfl ?_
  refine ok_getr F dX7_remember_1 kF_X7_28 sh_20 rfl ?_
  refine ok_aload_n F dX7_remember_4 0 rfl ?_
  refine ok_getf (v := mem 20 5) F dX7_remember_5 kF_X7_203 sh_20 rfl rfl ?_
  refine ok_aald (r := (stB (2 + (mem 20 5).toNat))) F dX7_remember_8 sh_177 rfl (by first | exact Or.inl rfl | exact Or.inr rfl) (by decide) (by omega) (show _ < (10 : Int) from (by omega)) (pastAt (by omega)) ?_
  refine ok_aload_n F dX7_remember_9 0 rfl ?_
  refine ok_getr F dX7_remember_10 kF_X7_10 sh_20 rfl ?_
  refine ok_callv F [pR 21] dX7_remember_13 kM_X6_copyFrom kI_X6_copyFrom kV_X6_copyFrom kL_X7_96 (ci := 6) rfl (stSh (by omega)) rfl (by decide) (Nat.le_of_ble_eq_true rfl) rfl (m_X6_copyFrom _ (2 + (mem 20 5).toNat) 0 mem (by omega) (by omega) (by omega)) ?_
  rintro _ m_1 ⟨rfl, e_2⟩
  refine ok_aload_n F dX7_remember_16 0 rfl ?_
  refine ok_aload_n F dX7_remember_17 0 rfl ?_
  refine ok_getf (v := mem 20 5) F dX7_remember_18 kF_X7_203 sh_20 rfl (by rw [(cpyS_cell (a := 20) e_2 (by unfold stB; omega))] <;> rfl) ?_
  refine ok_iconst F dX7_remember_21 ?_
  refine ok_iadd F dX7_remember_22 ?_
  refine ok_bipush F dX7_remember_23 rfl ?_
  refine ok_irem F dX7_remember_25 (by omega) (by omega) (by omega) ?_
  refine ok_putf F dX7_remember_26 kF_X7_203 sh_20 rfl rfl rfl (fun m_3 e_4 => ?_)
  refine ok_aload_n F dX7_remember_29 0 rfl ?_
  refine ok_aload_n F dX7_remember_30 0 rfl ?_
  refine ok_getf (v := mem 20 6) F dX7_remember_31 kF_X7_100 sh_20 rfl (by rw [e_4, mset_ne (by decide), (cpyS_cell (a := 20) e_2 (by unfold stB; omega))] <;> rfl) ?_
  refine ok_iconst F dX7_remember_34 ?_
  refine ok_iadd F dX7_remember_35 ?_
  refine ok_bipush F dX7_remember_36 rfl ?_
  refine ok_mmin F dX7_remember_38 kL_X7_206 kS_J9_min_7cf53 kM_J9_min_7cf53.2.1 kM_J9_min_7cf53.2.2.1 (by omega) (by omega) (by decide) (Nat.le_of_ble_eq_true rfl) ?_
  refine ok_putf F dX7_remember_41 kF_X7_100 sh_20 rfl rfl rfl (fun m_5 e_6 => ?_)
  refine ok_vret F G dX7_remember_44 ?_
  refine ⟨rfl, ?_⟩
  rw [e_6, e_4]
  have h20 : ∀ j, m_1 20 j = mem 20 j := fun j => by rw [cpyS_cell (a := 20) e_2 (by unfold stB; omega)]
  unfold remM
  rw [e_2]
theorem dX7_undo_0 : decode cX7_undo 0 = .ok (.aload_n 0, 1) := by decide +kernel
theorem dX7_undo_1 : decode cX7_undo 1 = .ok (.getfield 100, 3) := by decide +kernel
theorem dX7_undo_4 : decode cX7_undo 4 = .ok (.ifCond .ne 5, 3) := by decide +kernel
theorem dX7_undo_7 : decode cX7_undo 7 = .ok (.iconst (-1), 1) := by decide +kernel
theorem dX7_undo_8 : decode cX7_undo 8 = .ok (.ireturn, 1) := by decide +kernel
theorem dX7_undo_9 : decode cX7_undo 9 = .ok (.aload_n 0, 1) := by decide +kernel
theorem dX7_undo_10 : decode cX7_undo 10 = .ok (.aload_n 0, 1) := by decide +kernel
theorem dX7_undo_11 : decode cX7_undo 11 = .ok (.getfield 203, 3) := by decide +kernel
theorem dX7_undo_14 : decode cX7_undo 14 = .ok (.bipush 10, 2) := by decide +kernel
theorem dX7_undo_16 : decode cX7_undo 16 = .ok (.iadd, 1) := by decide +kernel
theorem dX7_undo_17 : decode cX7_undo 17 = .ok (.iconst 1, 1) := by decide +kernel
theorem dX7_undo_18 : decode cX7_undo 18 = .ok (.isub, 1) := by decide +kernel
theorem dX7_undo_19 : decode cX7_undo 19 = .ok (.bipush 10, 2) := by decide +kernel
theorem dX7_undo_21 : decode cX7_undo 21 = .ok (.irem, 1) := by decide +kernel
theorem dX7_undo_22 : decode cX7_undo 22 = .ok (.putfield 203, 3) := by decide +kernel
theorem dX7_undo_25 : decode cX7_undo 25 = .ok (.aload_n 0, 1) := by decide +kernel
theorem dX7_undo_26 : decode cX7_undo 26 = .ok (.getfield 10, 3) := by decide +kernel
theorem dX7_undo_29 : decode cX7_undo 29 = .ok (.aload_n 0, 1) := by decide +kernel
theorem dX7_undo_30 : decode cX7_undo 30 = .ok (.getfield 28, 3) := by decide +kernel
theorem dX7_undo_33 : decode cX7_undo 33 = .ok (.aload_n 0, 1) := by decide +kernel
theorem dX7_undo_34 : decode cX7_undo 34 = .ok (.getfield 203, 3) := by decide +kernel
theorem dX7_undo_37 : decode cX7_undo 37 = .ok (.aaload, 1) := by decide +kernel
theorem dX7_undo_38 : decode cX7_undo 38 = .ok (.invokevirtual 96, 3) := by decide +kernel
theorem dX7_undo_41 : decode cX7_undo 41 = .ok (.aload_n 0, 1) := by decide +kernel
theorem dX7_undo_42 : decode cX7_undo 42 = .ok (.dup, 1) := by decide +kernel
theorem dX7_undo_43 : decode cX7_undo 43 = .ok (.getfield 100, 3) := by decide +kernel
theorem dX7_undo_46 : decode cX7_undo 46 = .ok (.iconst 1, 1) := by decide +kernel
theorem dX7_undo_47 : decode cX7_undo 47 = .ok (.isub, 1) := by decide +kernel
theorem dX7_undo_48 : decode cX7_undo 48 = .ok (.putfield 100, 3) := by decide +kernel
theorem dX7_undo_51 : decode cX7_undo 51 = .ok (.aload_n 0, 1) := by decide +kernel
theorem dX7_undo_52 : decode cX7_undo 52 = .ok (.getfield 100, 3) := by decide +kernel
theorem dX7_undo_55 : decode cX7_undo 55 = .ok (.ireturn, 1) := by decide +kernel
set_option maxHeartbeats 4000000 in
set_option maxRecDepth 100000 in
theorem m_X7_undo (l : Launch) (mem : Mem) (hPn : 0 ≤ mem 20 5 ∧ mem 20 5 ≤ 9) (hPa : 0 ≤ mem 20 6 ∧ mem 20 6 ≤ 10) : Ret shp l yX7_undo cX7_undo 1 (some .int) 3 [pR 20] mem (fun rv mv => rv = some (pI (if mem 20 6 = 0 then -1 else mem 20 6 - 1)) ∧ mv = if mem 20 6 = 0 then mem else undoC mem) := by
  refine ret_of (by decide +kernel) (Nat.le_of_ble_eq_true rfl) (fun X hX F G => ?_)
  show Ok shp X 1 0 [(0, pR 20)] [] mem
  refine ok_aload_n F dX7_undo_0 0 rfl ?_
  refine ok_getf (v := mem 20 6) F dX7_undo_1 kF_X7_100 sh_20 rfl rfl ?_
  refine ok_if_ne F 9 dX7_undo_4 (by decide) (by omega) (fun c_1 => ?_) (fun c_1 => ?_)
  · refine ok_aload_n F dX7_undo_9 0 rfl ?_
    refine ok_aload_n F dX7_undo_10 0 rfl ?_
    refine ok_getf (v := mem 20 5) F dX7_undo_11 kF_X7_203 sh_20 rfl rfl ?_
    refine ok_bipush F dX7_undo_14 rfl ?_
    refine ok_iadd F dX7_undo_16 ?_
    refine ok_iconst F dX7_undo_17 ?_
    refine ok_isub F dX7_undo_18 ?_
    refine ok_bipush F dX7_undo_19 rfl ?_
    refine ok_irem F dX7_undo_21 (by omega) (by omega) (by omega) ?_
    refine ok_putf F dX7_undo_22 kF_X7_203 sh_20 rfl rfl rfl (fun m_2 e_3 => ?_)
    have hq := tmod10 (x := mem 20 5 + 10 - 1) (by omega)
    refine ok_aload_n F dX7_undo_25 0 rfl ?_
    refine ok_getr F dX7_undo_26 kF_X7_10 sh_20 rfl ?_
    refine ok_aload_n F dX7_undo_29 0 rfl ?_
    refine ok_getr F dX7_undo_30 kF_X7_28 sh_20 rfl ?_
    refine ok_aload_n F dX7_undo_33 0 rfl ?_
    refine ok_getf (v := ((((mem 20 5) + 10) - 1).tmod 10)) F dX7_undo_34 kF_X7_203 sh_20 rfl (by rw [e_3]; exact mset_eq _ _ _ _) ?_
    refine ok_aald (r := (stB (2 + ((mem 20 5 + 10 - 1).tmod 10).toNat))) F dX7_undo_37 sh_177 rfl (by first | exact Or.inl rfl | exact Or.inr rfl) (by decide) (by omega) (show _ < (10 : Int) from (by omega)) (pastAt (by omega)) ?_
    refine ok_callv F [pR (stB (2 + ((mem 20 5 + 10 - 1).tmod 10).toNat))] dX7_undo_38 kM_X6_copyFrom kI_X6_copyFrom kV_X6_copyFrom kL_X7_96 (ci := 6) rfl sh_21 rfl (by decide) (Nat.le_of_ble_eq_true rfl) rfl (m_X6_copyFrom _ 0 (2 + ((mem 20 5 + 10 - 1).tmod 10).toNat) m_2 (by omega) (by omega) (by omega)) ?_
    rintro _ m_4 ⟨rfl, e_5⟩
    refine ok_aload_n F dX7_undo_41 0 rfl ?_
    refine ok_dup F dX7_undo_42 rfl ?_
    refine ok_getf (v := m_2 20 6) F dX7_undo_43 kF_X7_100 sh_20 rfl (by rw [(cpyS_cell (a := 20) e_5 (by decide))] <;> rfl) ?_
    refine ok_iconst F dX7_undo_46 ?_
    refine ok_isub F dX7_undo_47 ?_
    refine ok_putf F dX7_undo_48 kF_X7_100 sh_20 rfl rfl rfl (fun m_6 e_7 => ?_)
    refine ok_aload_n F dX7_undo_51 0 rfl ?_
    refine ok_getf (v := ((m_2 20 6) - 1)) F dX7_undo_52 kF_X7_100 sh_20 rfl (by rw [e_7]; exact mset_eq _ _ _ _) ?_
    refine ok_iret F G dX7_undo_55 ?_
    have h6 : mem 20 6 ≠ 0 := by omega
    have e6 : mset mem 20 5 ((mem 20 5 + 10 - 1).tmod 10) 20 6 = mem 20 6 := mset_ne (by decide)
    subst_vars
    refine ⟨?_, ?_⟩
    · rw [if_neg h6, e6]
    · rw [if_neg h6, e6]; rfl
  · refine ok_iconst F dX7_undo_7 ?_
    refine ok_iret F G dX7_undo_8 ?_
    exact ⟨by rw [if_pos (by omega)], by rw [if_pos (by omega)]⟩
theorem dX7_keep_0 : decode cX7_keep 0 = .ok (.iload_n 1, 1) := by decide +kernel
theorem dX7_keep_1 : decode cX7_keep 1 = .ok (.ifCond .lt 8, 3) := by decide +kernel
theorem dX7_keep_4 : decode cX7_keep 4 = .ok (.iload_n 1, 1) := by decide +kernel
theorem dX7_keep_5 : decode cX7_keep 5 = .ok (.iconst 2, 1) := by decide +kernel
theorem dX7_keep_6 : decode cX7_keep 6 = .ok (.if_icmp .lt 5, 3) := by decide +kernel
theorem dX7_keep_9 : decode cX7_keep 9 = .ok (.iconst (-1), 1) := by decide +kernel
theorem dX7_keep_10 : decode cX7_keep 10 = .ok (.ireturn, 1) := by decide +kernel
theorem dX7_keep_11 : decode cX7_keep 11 = .ok (.aload_n 0, 1) := by decide +kernel
theorem dX7_keep_12 : decode cX7_keep 12 = .ok (.getfield 32, 3) := by decide +kernel
theorem dX7_keep_15 : decode cX7_keep 15 = .ok (.iload_n 1, 1) := by decide +kernel
theorem dX7_keep_16 : decode cX7_keep 16 = .ok (.aaload, 1) := by decide +kernel
theorem dX7_keep_17 : decode cX7_keep 17 = .ok (.aload_n 0, 1) := by decide +kernel
theorem dX7_keep_18 : decode cX7_keep 18 = .ok (.getfield 10, 3) := by decide +kernel
theorem dX7_keep_21 : decode cX7_keep 21 = .ok (.invokevirtual 96, 3) := by decide +kernel
theorem dX7_keep_24 : decode cX7_keep 24 = .ok (.aload_n 0, 1) := by decide +kernel
theorem dX7_keep_25 : decode cX7_keep 25 = .ok (.dup, 1) := by decide +kernel
theorem dX7_keep_26 : decode cX7_keep 26 = .ok (.getfield 209, 3) := by decide +kernel
theorem dX7_keep_29 : decode cX7_keep 29 = .ok (.iconst 1, 1) := by decide +kernel
theorem dX7_keep_30 : decode cX7_keep 30 = .ok (.iload_n 1, 1) := by decide +kernel
theorem dX7_keep_31 : decode cX7_keep 31 = .ok (.ishl, 1) := by decide +kernel
theorem dX7_keep_32 : decode cX7_keep 32 = .ok (.ior, 1) := by decide +kernel
theorem dX7_keep_33 : decode cX7_keep 33 = .ok (.putfield 209, 3) := by decide +kernel
theorem dX7_keep_36 : decode cX7_keep 36 = .ok (.aload_n 0, 1) := by decide +kernel
theorem dX7_keep_37 : decode cX7_keep 37 = .ok (.getfield 10, 3) := by decide +kernel
theorem dX7_keep_40 : decode cX7_keep 40 = .ok (.getfield 103, 3) := by decide +kernel
theorem dX7_keep_43 : decode cX7_keep 43 = .ok (.ireturn, 1) := by decide +kernel
set_option maxHeartbeats 4000000 in
set_option maxRecDepth 100000 in
theorem m_X7_keep (l : Launch) (k : Int) (mem : Mem) (hk : i32 k) : Ret shp l yX7_keep cX7_keep 2 (some .int) 3 [pR 20, pI k] mem (fun rv mv => rv = some (pI (if 0 ≤ k ∧ k ≤ 1 then mem 21 0 else -1)) ∧ mv = if 0 ≤ k ∧ k ≤ 1 then keepC mem k else mem) := by
  refine ret_of (by decide +kernel) (Nat.le_of_ble_eq_true rfl) (fun X hX F G => ?_)
  show Ok shp X 2 0 [(0, pR 20), (1, pI k)] [] mem
  refine ok_iload_n F dX7_keep_0 1 rfl ?_
  refine ok_if_lt F 9 dX7_keep_1 (by decide) (by omega) (fun c_1 => ?_) (fun c_1 => ?_)
  · refine ok_iconst F dX7_keep_9 ?_
    refine ok_iret F G dX7_keep_10 ?_
    exact ⟨by rw [if_neg (by omega)], by rw [if_neg (by omega)]⟩
  · refine ok_iload_n F dX7_keep_4 1 rfl ?_
    refine ok_iconst F dX7_keep_5 ?_
    refine ok_icmp_lt F 11 dX7_keep_6 (by decide) (by omega) (by omega) (fun c_2 => ?_) (fun c_2 => ?_)
    · refine ok_aload_n F dX7_keep_11 0 rfl ?_
      refine ok_getr F dX7_keep_12 kF_X7_32 sh_20 rfl ?_
      refine ok_iload_n F dX7_keep_15 1 rfl ?_
      refine ok_aald (r := (stB (12 + k.toNat))) F dX7_keep_16 sh_178 rfl (by first | exact Or.inl rfl | exact Or.inr rfl) (by decide) (by omega) (show _ < (2 : Int) from (by omega)) (shelfAt (by omega)) ?_
      refine ok_aload_n F dX7_keep_17 0 rfl ?_
      refine ok_getr F dX7_keep_18 kF_X7_10 sh_20 rfl ?_
      refine ok_callv F [pR 21] dX7_keep_21 kM_X6_copyFrom kI_X6_copyFrom kV_X6_copyFrom kL_X7_96 (ci := 6) rfl (stSh (by omega)) rfl (by decide) (Nat.le_of_ble_eq_true rfl) rfl (m_X6_copyFrom _ (12 + k.toNat) 0 mem (by omega) (by omega) (by omega)) ?_
      rintro _ m_3 ⟨rfl, e_4⟩
      refine ok_aload_n F dX7_keep_24 0 rfl ?_
      refine ok_dup F dX7_keep_25 rfl ?_
      refine ok_getf (v := mem 20 8) F dX7_keep_26 kF_X7_209 sh_20 rfl (by rw [(cpyS_cell (a := 20) e_4 (by unfold stB; omega))] <;> rfl) ?_
      refine ok_iconst F dX7_keep_29 ?_
      refine ok_iload_n F dX7_keep_30 1 rfl ?_
      refine ok_ishl F dX7_keep_31 ?_
      refine ok_ior F dX7_keep_32 ?_
      refine ok_putf F dX7_keep_33 kF_X7_209 sh_20 rfl rfl rfl (fun m_5 e_6 => ?_)
      refine ok_aload_n F dX7_keep_36 0 rfl ?_
      refine ok_getr F dX7_keep_37 kF_X7_10 sh_20 rfl ?_
      refine ok_getf (v := mem 21 0) F dX7_keep_40 kF_X7_103 sh_21 rfl (by rw [e_6, mset_nk (by decide), (cpyS_cell (a := 21) e_4 (by unfold stB; omega))] <;> rfl) ?_
      refine ok_iret F G dX7_keep_43 ?_
      have hk2 : 0 ≤ k ∧ k ≤ 1 := by omega
      subst_vars
      exact ⟨by rw [if_pos hk2], by rw [if_pos hk2]; rfl⟩
    · refine ok_iconst F dX7_keep_9 ?_
      refine ok_iret F G dX7_keep_10 ?_
      exact ⟨by rw [if_neg (by omega)], by rw [if_neg (by omega)]⟩
theorem dX7_back_0 : decode cX7_back 0 = .ok (.iload_n 1, 1) := by decide +kernel
theorem dX7_back_1 : decode cX7_back 1 = .ok (.ifCond .lt 8, 3) := by decide +kernel
theorem dX7_back_4 : decode cX7_back 4 = .ok (.iload_n 1, 1) := by decide +kernel
theorem dX7_back_5 : decode cX7_back 5 = .ok (.iconst 2, 1) := by decide +kernel
theorem dX7_back_6 : decode cX7_back 6 = .ok (.if_icmp .lt 5, 3) := by decide +kernel
theorem dX7_back_9 : decode cX7_back 9 = .ok (.iconst (-1), 1) := by decide +kernel
theorem dX7_back_10 : decode cX7_back 10 = .ok (.ireturn, 1) := by decide +kernel
theorem dX7_back_11 : decode cX7_back 11 = .ok (.aload_n 0, 1) := by decide +kernel
theorem dX7_back_12 : decode cX7_back 12 = .ok (.getfield 209, 3) := by decide +kernel
theorem dX7_back_15 : decode cX7_back 15 = .ok (.iload_n 1, 1) := by decide +kernel
theorem dX7_back_16 : decode cX7_back 16 = .ok (.ishr, 1) := by decide +kernel
theorem dX7_back_17 : decode cX7_back 17 = .ok (.iconst 1, 1) := by decide +kernel
theorem dX7_back_18 : decode cX7_back 18 = .ok (.iand, 1) := by decide +kernel
theorem dX7_back_19 : decode cX7_back 19 = .ok (.ifCond .ne 6, 3) := by decide +kernel
theorem dX7_back_22 : decode cX7_back 22 = .ok (.bipush (-2), 2) := by decide +kernel
theorem dX7_back_24 : decode cX7_back 24 = .ok (.ireturn, 1) := by decide +kernel
theorem dX7_back_25 : decode cX7_back 25 = .ok (.aload_n 0, 1) := by decide +kernel
theorem dX7_back_26 : decode cX7_back 26 = .ok (.getfield 10, 3) := by decide +kernel
theorem dX7_back_29 : decode cX7_back 29 = .ok (.aload_n 0, 1) := by decide +kernel
theorem dX7_back_30 : decode cX7_back 30 = .ok (.getfield 32, 3) := by decide +kernel
theorem dX7_back_33 : decode cX7_back 33 = .ok (.iload_n 1, 1) := by decide +kernel
theorem dX7_back_34 : decode cX7_back 34 = .ok (.aaload, 1) := by decide +kernel
theorem dX7_back_35 : decode cX7_back 35 = .ok (.invokevirtual 96, 3) := by decide +kernel
theorem dX7_back_38 : decode cX7_back 38 = .ok (.aload_n 0, 1) := by decide +kernel
theorem dX7_back_39 : decode cX7_back 39 = .ok (.iconst 0, 1) := by decide +kernel
theorem dX7_back_40 : decode cX7_back 40 = .ok (.putfield 100, 3) := by decide +kernel
theorem dX7_back_43 : decode cX7_back 43 = .ok (.aload_n 0, 1) := by decide +kernel
theorem dX7_back_44 : decode cX7_back 44 = .ok (.getfield 10, 3) := by decide +kernel
theorem dX7_back_47 : decode cX7_back 47 = .ok (.getfield 103, 3) := by decide +kernel
theorem dX7_back_50 : decode cX7_back 50 = .ok (.ireturn, 1) := by decide +kernel
set_option maxHeartbeats 4000000 in
set_option maxRecDepth 100000 in
theorem m_X7_back (l : Launch) (k : Int) (mem : Mem) (hk : i32 k) : Ret shp l yX7_back cX7_back 2 (some .int) 3 [pR 20, pI k] mem (fun rv mv => rv = some (pI (if 0 ≤ k ∧ k ≤ 1 then (if iand (ishr (mem 20 8) k) 1 = 0 then -2 else mem (stB (12 + k.toNat)) 0) else -1)) ∧ mv = if 0 ≤ k ∧ k ≤ 1 then (if iand (ishr (mem 20 8) k) 1 = 0 then mem else backC mem k) else mem) := by
  refine ret_of (by decide +kernel) (Nat.le_of_ble_eq_true rfl) (fun X hX F G => ?_)
  show Ok shp X 2 0 [(0, pR 20), (1, pI k)] [] mem
  refine ok_iload_n F dX7_back_0 1 rfl ?_
  refine ok_if_lt F 9 dX7_back_1 (by decide) (by omega) (fun c_1 => ?_) (fun c_1 => ?_)
  · refine ok_iconst F dX7_back_9 ?_
    refine ok_iret F G dX7_back_10 ?_
    exact ⟨by rw [if_neg (by omega)], by rw [if_neg (by omega)]⟩
  · refine ok_iload_n F dX7_back_4 1 rfl ?_
    refine ok_iconst F dX7_back_5 ?_
    refine ok_icmp_lt F 11 dX7_back_6 (by decide) (by omega) (by omega) (fun c_2 => ?_) (fun c_2 => ?_)
    · refine ok_aload_n F dX7_back_11 0 rfl ?_
      refine ok_getf (v := mem 20 8) F dX7_back_12 kF_X7_209 sh_20 rfl rfl ?_
      refine ok_iload_n F dX7_back_15 1 rfl ?_
      refine ok_ishr F dX7_back_16 ?_
      refine ok_iconst F dX7_back_17 ?_
      refine ok_iand F dX7_back_18 ?_
      refine ok_if_ne F 25 dX7_back_19 (by decide) (toInt_i32 _) (fun c_3 => ?_) (fun c_3 => ?_)
      · refine ok_aload_n F dX7_back_25 0 rfl ?_
        refine ok_getr F dX7_back_26 kF_X7_10 sh_20 rfl ?_
        refine ok_aload_n F dX7_back_29 0 rfl ?_
        refine ok_getr F dX7_back_30 kF_X7_32 sh_20 rfl ?_
        refine ok_iload_n F dX7_back_33 1 rfl ?_
        refine ok_aald (r := (stB (12 + k.toNat))) F dX7_back_34 sh_178 rfl (by first | exact Or.inl rfl | exact Or.inr rfl) (by decide) (by omega) (show _ < (2 : Int) from (by omega)) (shelfAt (by omega)) ?_
        refine ok_callv F [pR (stB (12 + k.toNat))] dX7_back_35 kM_X6_copyFrom kI_X6_copyFrom kV_X6_copyFrom kL_X7_96 (ci := 6) rfl sh_21 rfl (by decide) (Nat.le_of_ble_eq_true rfl) rfl (m_X6_copyFrom _ 0 (12 + k.toNat) mem (by omega) (by omega) (by omega)) ?_
        rintro _ m_4 ⟨rfl, e_5⟩
        refine ok_aload_n F dX7_back_38 0 rfl ?_
        refine ok_iconst F dX7_back_39 ?_
        refine ok_putf F dX7_back_40 kF_X7_100 sh_20 rfl rfl rfl (fun m_6 e_7 => ?_)
        refine ok_aload_n F dX7_back_43 0 rfl ?_
        refine ok_getr F dX7_back_44 kF_X7_10 sh_20 rfl ?_
        refine ok_getf (v := m_4 21 0) F dX7_back_47 kF_X7_103 sh_21 rfl (by rw [e_7, mset_nk (by decide)] <;> rfl) ?_
        refine ok_iret F G dX7_back_50 ?_
        have hk2 : 0 ≤ k ∧ k ≤ 1 := by omega
        subst_vars
        refine ⟨?_, by rw [if_pos hk2, if_neg (by assumption)]; rfl⟩
        rw [if_pos hk2, if_neg (by assumption)]
        rfl
      · refine ok_bipush F dX7_back_22 rfl ?_
        refine ok_iret F G dX7_back_24 ?_
        exact ⟨by rw [if_pos (by omega), if_pos (by omega)], by rw [if_pos (by omega), if_pos (by omega)]⟩
    · refine ok_iconst F dX7_back_9 ?_
      refine ok_iret F G dX7_back_10 ?_
      exact ⟨by rw [if_neg (by omega)], by rw [if_neg (by omega)]⟩
theorem dX7_put_0 : decode cX7_put 0 = .ok (.iload_n 1, 1) := by decide +kernel
theorem dX7_put_1 : decode cX7_put 1 = .ok (.ifCond .lt 36, 3) := by decide +kernel
theorem dX7_put_4 : decode cX7_put 4 = .ok (.iload_n 1, 1) := by decide +kernel
theorem dX7_put_5 : decode cX7_put 5 = .ok (.iconst 3, 1) := by decide +kernel
theorem dX7_put_6 : decode cX7_put 6 = .ok (.if_icmp .gt 31, 3) := by decide +kernel
theorem dX7_put_9 : decode cX7_put 9 = .ok (.aload_n 0, 1) := by decide +kernel
theorem dX7_put_10 : decode cX7_put 10 = .ok (.iload_n 2, 1) := by decide +kernel
theorem dX7_put_11 : decode cX7_put 11 = .ok (.invokevirtual 106, 3) := by decide +kernel
theorem dX7_put_14 : decode cX7_put 14 = .ok (.ifCond .eq 23, 3) := by decide +kernel
theorem dX7_put_17 : decode cX7_put 17 = .ok (.iload_n 3, 1) := by decide +kernel
theorem dX7_put_18 : decode cX7_put 18 = .ok (.iload_n 1, 1) := by decide +kernel
theorem dX7_put_19 : decode cX7_put 19 = .ok (.iconst 3, 1) := by decide +kernel
theorem dX7_put_20 : decode cX7_put 20 = .ok (.if_icmp .ne 7, 3) := by decide +kernel
theorem dX7_put_23 : decode cX7_put 23 = .ok (.iconst 1, 1) := by decide +kernel
theorem dX7_put_24 : decode cX7_put 24 = .ok (.goto 4, 3) := by decide +kernel
theorem dX7_put_27 : decode cX7_put 27 = .ok (.iconst 0, 1) := by decide +kernel
theorem dX7_put_28 : decode cX7_put 28 = .ok (.if_icmp .lt 9, 3) := by decide +kernel
theorem dX7_put_31 : decode cX7_put 31 = .ok (.iload_n 3, 1) := by decide +kernel
theorem dX7_put_32 : decode cX7_put 32 = .ok (.bipush 100, 2) := by decide +kernel
theorem dX7_put_34 : decode cX7_put 34 = .ok (.if_icmp .lt 5, 3) := by decide +kernel
theorem dX7_put_37 : decode cX7_put 37 = .ok (.iconst (-1), 1) := by decide +kernel
theorem dX7_put_38 : decode cX7_put 38 = .ok (.ireturn, 1) := by decide +kernel
theorem dX7_put_39 : decode cX7_put 39 = .ok (.aload_n 0, 1) := by decide +kernel
theorem dX7_put_40 : decode cX7_put 40 = .ok (.getfield 10, 3) := by decide +kernel
theorem dX7_put_43 : decode cX7_put 43 = .ok (.iload_n 1, 1) := by decide +kernel
theorem dX7_put_44 : decode cX7_put 44 = .ok (.invokevirtual 110, 3) := by decide +kernel
theorem dX7_put_47 : decode cX7_put 47 = .ok (.astore 4, 2) := by decide +kernel
theorem dX7_put_49 : decode cX7_put 49 = .ok (.aload 4, 2) := by decide +kernel
theorem dX7_put_51 : decode cX7_put 51 = .ok (.iload_n 2, 1) := by decide +kernel
theorem dX7_put_52 : decode cX7_put 52 = .ok (.iaload, 1) := by decide +kernel
theorem dX7_put_53 : decode cX7_put 53 = .ok (.istore 5, 2) := by decide +kernel
theorem dX7_put_55 : decode cX7_put 55 = .ok (.iload 5, 2) := by decide +kernel
theorem dX7_put_57 : decode cX7_put 57 = .ok (.iload_n 3, 1) := by decide +kernel
theorem dX7_put_58 : decode cX7_put 58 = .ok (.if_icmp .ne 6, 3) := by decide +kernel
theorem dX7_put_61 : decode cX7_put 61 = .ok (.bipush (-2), 2) := by decide +kernel
theorem dX7_put_63 : decode cX7_put 63 = .ok (.ireturn, 1) := by decide +kernel
theorem dX7_put_64 : decode cX7_put 64 = .ok (.aload_n 0, 1) := by decide +kernel
theorem dX7_put_65 : decode cX7_put 65 = .ok (.invokevirtual 114, 3) := by decide +kernel
theorem dX7_put_68 : decode cX7_put 68 = .ok (.aload 4, 2) := by decide +kernel
theorem dX7_put_70 : decode cX7_put 70 = .ok (.iload_n 2, 1) := by decide +kernel
theorem dX7_put_71 : decode cX7_put 71 = .ok (.iload_n 3, 1) := by decide +kernel
theorem dX7_put_72 : decode cX7_put 72 = .ok (.iastore, 1) := by decide +kernel
theorem dX7_put_73 : decode cX7_put 73 = .ok (.iload 5, 2) := by decide +kernel
theorem dX7_put_75 : decode cX7_put 75 = .ok (.ireturn, 1) := by decide +kernel
set_option maxHeartbeats 4000000 in
set_option maxRecDepth 100000 in
theorem m_X7_put (l : Launch) (r : Int) (k : Int) (n : Int) (mem : Mem) (hr : i32 r) (hk : i32 k) (hn : i32 n) (hN : 0 ≤ mem 21 0 ∧ mem 21 0 ≤ 8) (hPn : 0 ≤ mem 20 5 ∧ mem 20 5 ≤ 9) (hPa : 0 ≤ mem 20 6 ∧ mem 20 6 ≤ 10) (hI : ∀ a : Nat, 22 ≤ a → a ≤ 28 → ∀ b : Nat, b < 8 → i32 (mem a b)) : Ret shp l yX7_put cX7_put 6 (some .int) 4 [pR 20, pI r, pI k, pI n] mem (fun rv mv => ∃ z, rv = some (pI z) ∧ (¬ ((0 ≤ r ∧ r ≤ 3) ∧ (0 ≤ k ∧ k < mem 21 0) ∧ (if r = 3 then 1 else 0) ≤ n ∧ n ≤ 99) ∧ z = -1 ∧ mv = mem ∨ ((0 ≤ r ∧ r ≤ 3) ∧ (0 ≤ k ∧ k < mem 21 0) ∧ (if r = 3 then 1 else 0) ≤ n ∧ n ≤ 99) ∧ (mem (23 + r.toNat) k.toNat = n ∧ z = -2 ∧ mv = mem ∨ mem (23 + r.toNat) k.toNat ≠ n ∧ z = mem (23 + r.toNat) k.toNat ∧ mv = mset (remM mem) (23 + r.toNat) k.toNat n))) := by
  refine ret_of (by decide +kernel) (Nat.le_of_ble_eq_true rfl) (fun X hX F G => ?_)
  show Ok shp X 6 0 [(0, pR 20), (1, pI r), (2, pI k), (3, pI n)] [] mem
  refine ok_iload_n F dX7_put_0 1 rfl ?_
  refine ok_if_lt F 37 dX7_put_1 (by decide) (by omega) (fun c_1 => ?_) (fun c_1 => ?_)
  · refine ok_iconst F dX7_put_37 ?_
    refine ok_iret F G dX7_put_38 ?_
    exact ⟨_, rfl, Or.inl ⟨by omega, rfl, rfl⟩⟩
  · refine ok_iload_n F dX7_put_4 1 rfl ?_
    refine ok_iconst F dX7_put_5 ?_
    refine ok_icmp_gt F 37 dX7_put_6 (by decide) (by omega) (by omega) (fun c_2 => ?_) (fun c_2 => ?_)
    · refine ok_iconst F dX7_put_37 ?_
      refine ok_iret F G dX7_put_38 ?_
      exact ⟨_, rfl, Or.inl ⟨by omega, rfl, rfl⟩⟩
    · refine ok_aload_n F dX7_put_9 0 rfl ?_
      refine ok_iload_n F dX7_put_10 2 rfl ?_
      refine ok_callv F [pI k] dX7_put_11 kM_X7_hasKind kI_X7_hasKind kV_X7_hasKind kL_X7_106 (ci := 7) rfl sh_20 rfl (by decide) (Nat.le_of_ble_eq_true rfl) rfl (m_X7_hasKind _ k mem (by omega) (by omega)) ?_
      rintro _ _ ⟨rfl, rfl⟩
      refine ok_if_eq F 37 dX7_put_14 (by decide) (by omega) (fun c_3 => ?_) (fun c_3 => ?_)
      · refine ok_iconst F dX7_put_37 ?_
        refine ok_iret F G dX7_put_38 ?_
        exact ⟨_, rfl, Or.inl ⟨by omega, rfl, rfl⟩⟩
      · refine ok_iload_n F dX7_put_17 3 rfl ?_
        refine ok_iload_n F dX7_put_18 1 rfl ?_
        refine ok_iconst F dX7_put_19 ?_
        refine ok_icmp_ne F 27 dX7_put_20 (by decide) (by omega) (by omega) (fun c_4 => ?_) (fun c_4 => ?_)
        · refine ok_iconst F dX7_put_27 ?_
          refine ok_icmp_lt F 37 dX7_put_28 (by decide) (by omega) (by omega) (fun c_5 => ?_) (fun c_5 => ?_)
          · refine ok_iconst F dX7_put_37 ?_
            refine ok_iret F G dX7_put_38 ?_
            exact ⟨_, rfl, Or.inl ⟨by omega, rfl, rfl⟩⟩
          · refine ok_iload_n F dX7_put_31 3 rfl ?_
            refine ok_bipush F dX7_put_32 rfl ?_
            refine ok_icmp_lt F 39 dX7_put_34 (by decide) (by omega) (by omega) (fun c_6 => ?_) (fun c_6 => ?_)
            · refine ok_aload_n F dX7_put_39 0 rfl ?_
              refine ok_getr F dX7_put_40 kF_X7_10 sh_20 rfl ?_
              refine ok_iload_n F dX7_put_43 1 rfl ?_
              refine ok_callv F [pI r] dX7_put_44 kM_X6_rowOf kI_X6_rowOf kV_X6_rowOf kL_X7_110 (ci := 6) rfl sh_21 rfl (by decide) (Nat.le_of_ble_eq_true rfl) rfl (m_X6_rowOf_21 _ r mem (by omega)) ?_
              rintro _ _ ⟨rfl, rfl⟩
              refine ok_astore (lv' := [(4, pR (23 + r.toNat)), (0, pR 20), (1, pI r), (2, pI k), (3, pI n)]) F dX7_put_47 (by decide) rfl ?_
              refine ok_aload F dX7_put_49 0 rfl ?_
              refine ok_iload_n F dX7_put_51 3 rfl ?_
              refine ok_iald (v := mem (23 + r.toNat) k.toNat) F dX7_put_52 (shRow3 (by omega)) (by first | decide | assumption) (by omega) (by omega) rfl ?_
              refine ok_istore (lv' := [(5, pI (mem (23 + r.toNat) k.toNat)), (4, pR (23 + r.toNat)), (0, pR 20), (1, pI r), (2, pI k), (3, pI n)]) F dX7_put_53 (by decide) rfl ?_
              have q9 := hI (23 + r.toNat) (by omega) (by omega) k.toNat (by omega)
              refine ok_iload F dX7_put_55 0 rfl ?_
              refine ok_iload_n F dX7_put_57 5 rfl ?_
              refine ok_icmp_ne F 64 dX7_put_58 (by decide) (by omega) (by omega) (fun c_7 => ?_) (fun c_7 => ?_)
              · refine ok_aload_n F dX7_put_64 2 rfl ?_
                refine ok_callv F [] dX7_put_65 kM_X7_remember kI_X7_remember kV_X7_remember kL_X7_114 (ci := 7) rfl sh_20 rfl (by decide) (Nat.le_of_ble_eq_true rfl) rfl (m_X7_remember _ mem (by omega) (by omega)) ?_
                rintro _ m_8 ⟨rfl, e_9⟩
                refine ok_aload F dX7_put_68 1 rfl ?_
                refine ok_iload_n F dX7_put_70 4 rfl ?_
                refine ok_iload_n F dX7_put_71 5 rfl ?_
                refine ok_iast F dX7_put_72 (shRow3 (by omega)) (by first | decide | assumption) (by omega) (by omega) (fun m_10 e_11 => ?_)
                refine ok_iload F dX7_put_73 0 rfl ?_
                refine ok_iret F G dX7_put_75 ?_
                exact ⟨_, rfl, Or.inr ⟨by omega, Or.inr ⟨by omega, rfl, by subst_vars; rfl⟩⟩⟩
              · refine ok_bipush F dX7_put_61 rfl ?_
                refine ok_iret F G dX7_put_63 ?_
                exact ⟨_, rfl, Or.inr ⟨by omega, Or.inl ⟨by omega, rfl, rfl⟩⟩⟩
            · refine ok_iconst F dX7_put_37 ?_
              refine ok_iret F G dX7_put_38 ?_
              exact ⟨_, rfl, Or.inl ⟨by omega, rfl, rfl⟩⟩
        · refine ok_iconst F dX7_put_23 ?_
          refine ok_goto F 28 dX7_put_24 (by decide) ?_
          refine ok_icmp_lt F 37 dX7_put_28 (by decide) (by omega) (by omega) (fun c_12 => ?_) (fun c_12 => ?_)
          · refine ok_iconst F dX7_put_37 ?_
            refine ok_iret F G dX7_put_38 ?_
            exact ⟨_, rfl, Or.inl ⟨by omega, rfl, rfl⟩⟩
          · refine ok_iload_n F dX7_put_31 3 rfl ?_
            refine ok_bipush F dX7_put_32 rfl ?_
            refine ok_icmp_lt F 39 dX7_put_34 (by decide) (by omega) (by omega) (fun c_13 => ?_) (fun c_13 => ?_)
            · refine ok_aload_n F dX7_put_39 0 rfl ?_
              refine ok_getr F dX7_put_40 kF_X7_10 sh_20 rfl ?_
              refine ok_iload_n F dX7_put_43 1 rfl ?_
              refine ok_callv F [pI r] dX7_put_44 kM_X6_rowOf kI_X6_rowOf kV_X6_rowOf kL_X7_110 (ci := 6) rfl sh_21 rfl (by decide) (Nat.le_of_ble_eq_true rfl) rfl (m_X6_rowOf_21 _ r mem (by omega)) ?_
              rintro _ _ ⟨rfl, rfl⟩
              refine ok_astore (lv' := [(4, pR (23 + r.toNat)), (0, pR 20), (1, pI r), (2, pI k), (3, pI n)]) F dX7_put_47 (by decide) rfl ?_
              refine ok_aload F dX7_put_49 0 rfl ?_
              refine ok_iload_n F dX7_put_51 3 rfl ?_
              refine ok_iald (v := mem (23 + r.toNat) k.toNat) F dX7_put_52 (shRow3 (by omega)) (by first | decide | assumption) (by omega) (by omega) rfl ?_
              refine ok_istore (lv' := [(5, pI (mem (23 + r.toNat) k.toNat)), (4, pR (23 + r.toNat)), (0, pR 20), (1, pI r), (2, pI k), (3, pI n)]) F dX7_put_53 (by decide) rfl ?_
              have q9 := hI (23 + r.toNat) (by omega) (by omega) k.toNat (by omega)
              refine ok_iload F dX7_put_55 0 rfl ?_
              refine ok_iload_n F dX7_put_57 5 rfl ?_
              refine ok_icmp_ne F 64 dX7_put_58 (by decide) (by omega) (by omega) (fun c_14 => ?_) (fun c_14 => ?_)
              · refine ok_aload_n F dX7_put_64 2 rfl ?_
                refine ok_callv F [] dX7_put_65 kM_X7_remember kI_X7_remember kV_X7_remember kL_X7_114 (ci := 7) rfl sh_20 rfl (by decide) (Nat.le_of_ble_eq_true rfl) rfl (m_X7_remember _ mem (by omega) (by omega)) ?_
                rintro _ m_15 ⟨rfl, e_16⟩
                refine ok_aload F dX7_put_68 1 rfl ?_
                refine ok_iload_n F dX7_put_70 4 rfl ?_
                refine ok_iload_n F dX7_put_71 5 rfl ?_
                refine ok_iast F dX7_put_72 (shRow3 (by omega)) (by first | decide | assumption) (by omega) (by omega) (fun m_17 e_18 => ?_)
                refine ok_iload F dX7_put_73 0 rfl ?_
                refine ok_iret F G dX7_put_75 ?_
                exact ⟨_, rfl, Or.inr ⟨by omega, Or.inr ⟨by omega, rfl, by subst_vars; rfl⟩⟩⟩
              · refine ok_bipush F dX7_put_61 rfl ?_
                refine ok_iret F G dX7_put_63 ?_
                exact ⟨_, rfl, Or.inr ⟨by omega, Or.inl ⟨by omega, rfl, rfl⟩⟩⟩
            · refine ok_iconst F dX7_put_37 ?_
              refine ok_iret F G dX7_put_38 ?_
              exact ⟨_, rfl, Or.inl ⟨by omega, rfl, rfl⟩⟩
theorem dX7_hand_0 : decode cX7_hand 0 = .ok (.aload_n 0, 1) := by decide +kernel
theorem dX7_hand_1 : decode cX7_hand 1 = .ok (.iload_n 1, 1) := by decide +kernel
theorem dX7_hand_2 : decode cX7_hand 2 = .ok (.invokevirtual 106, 3) := by decide +kernel
theorem dX7_hand_5 : decode cX7_hand 5 = .ok (.ifCond .ne 5, 3) := by decide +kernel
theorem dX7_hand_8 : decode cX7_hand 8 = .ok (.iconst (-1), 1) := by decide +kernel
theorem dX7_hand_9 : decode cX7_hand 9 = .ok (.ireturn, 1) := by decide +kernel
theorem dX7_hand_10 : decode cX7_hand 10 = .ok (.aload_n 0, 1) := by decide +kernel
theorem dX7_hand_11 : decode cX7_hand 11 = .ok (.getfield 10, 3) := by decide +kernel
theorem dX7_hand_14 : decode cX7_hand 14 = .ok (.getfield 117, 3) := by decide +kernel
theorem dX7_hand_17 : decode cX7_hand 17 = .ok (.iload_n 1, 1) := by decide +kernel
theorem dX7_hand_18 : decode cX7_hand 18 = .ok (.iaload, 1) := by decide +kernel
theorem dX7_hand_19 : decode cX7_hand 19 = .ok (.iconst 1, 1) := by decide +kernel
theorem dX7_hand_20 : decode cX7_hand 20 = .ok (.if_icmp .ge 6, 3) := by decide +kernel
theorem dX7_hand_23 : decode cX7_hand 23 = .ok (.bipush (-2), 2) := by decide +kernel
theorem dX7_hand_25 : decode cX7_hand 25 = .ok (.ireturn, 1) := by decide +kernel
theorem dX7_hand_26 : decode cX7_hand 26 = .ok (.aload_n 0, 1) := by decide +kernel
theorem dX7_hand_27 : decode cX7_hand 27 = .ok (.getfield 10, 3) := by decide +kernel
theorem dX7_hand_30 : decode cX7_hand 30 = .ok (.aload_n 0, 1) := by decide +kernel
theorem dX7_hand_31 : decode cX7_hand 31 = .ok (.getfield 10, 3) := by decide +kernel
theorem dX7_hand_34 : decode cX7_hand 34 = .ok (.getfield 120, 3) := by decide +kernel
theorem dX7_hand_37 : decode cX7_hand 37 = .ok (.invokevirtual 123, 3) := by decide +kernel
theorem dX7_hand_40 : decode cX7_hand 40 = .ok (.iconst 5, 1) := by decide +kernel
theorem dX7_hand_41 : decode cX7_hand 41 = .ok (.if_icmp .lt 6, 3) := by decide +kernel
theorem dX7_hand_44 : decode cX7_hand 44 = .ok (.bipush (-3), 2) := by decide +kernel
theorem dX7_hand_46 : decode cX7_hand 46 = .ok (.ireturn, 1) := by decide +kernel
theorem dX7_hand_47 : decode cX7_hand 47 = .ok (.aload_n 0, 1) := by decide +kernel
theorem dX7_hand_48 : decode cX7_hand 48 = .ok (.invokevirtual 114, 3) := by decide +kernel
theorem dX7_hand_51 : decode cX7_hand 51 = .ok (.aload_n 0, 1) := by decide +kernel
theorem dX7_hand_52 : decode cX7_hand 52 = .ok (.getfield 10, 3) := by decide +kernel
theorem dX7_hand_55 : decode cX7_hand 55 = .ok (.getfield 117, 3) := by decide +kernel
theorem dX7_hand_58 : decode cX7_hand 58 = .ok (.iload_n 1, 1) := by decide +kernel
theorem dX7_hand_59 : decode cX7_hand 59 = .ok (.dup2, 1) := by decide +kernel
theorem dX7_hand_60 : decode cX7_hand 60 = .ok (.iaload, 1) := by decide +kernel
theorem dX7_hand_61 : decode cX7_hand 61 = .ok (.iconst 1, 1) := by decide +kernel
theorem dX7_hand_62 : decode cX7_hand 62 = .ok (.isub, 1) := by decide +kernel
theorem dX7_hand_63 : decode cX7_hand 63 = .ok (.iastore, 1) := by decide +kernel
theorem dX7_hand_64 : decode cX7_hand 64 = .ok (.aload_n 0, 1) := by decide +kernel
theorem dX7_hand_65 : decode cX7_hand 65 = .ok (.getfield 10, 3) := by decide +kernel
theorem dX7_hand_68 : decode cX7_hand 68 = .ok (.getfield 120, 3) := by decide +kernel
theorem dX7_hand_71 : decode cX7_hand 71 = .ok (.iload_n 1, 1) := by decide +kernel
theorem dX7_hand_72 : decode cX7_hand 72 = .ok (.dup2, 1) := by decide +kernel
theorem dX7_hand_73 : decode cX7_hand 73 = .ok (.iaload, 1) := by decide +kernel
theorem dX7_hand_74 : decode cX7_hand 74 = .ok (.iconst 1, 1) := by decide +kernel
theorem dX7_hand_75 : decode cX7_hand 75 = .ok (.iadd, 1) := by decide +kernel
theorem dX7_hand_76 : decode cX7_hand 76 = .ok (.iastore, 1) := by decide +kernel
theorem dX7_hand_77 : decode cX7_hand 77 = .ok (.aload_n 0, 1) := by decide +kernel
theorem dX7_hand_78 : decode cX7_hand 78 = .ok (.getfield 10, 3) := by decide +kernel
theorem dX7_hand_81 : decode cX7_hand 81 = .ok (.aload_n 0, 1) := by decide +kernel
theorem dX7_hand_82 : decode cX7_hand 82 = .ok (.getfield 10, 3) := by decide +kernel
theorem dX7_hand_85 : decode cX7_hand 85 = .ok (.getfield 120, 3) := by decide +kernel
theorem dX7_hand_88 : decode cX7_hand 88 = .ok (.invokevirtual 123, 3) := by decide +kernel
theorem dX7_hand_91 : decode cX7_hand 91 = .ok (.ireturn, 1) := by decide +kernel
set_option maxHeartbeats 4000000 in
set_option maxRecDepth 100000 in
theorem m_X7_hand (l : Launch) (k : Int) (mem : Mem) (hk : i32 k) (hN : 0 ≤ mem 21 0 ∧ mem 21 0 ≤ 8) (hPn : 0 ≤ mem 20 5 ∧ mem 20 5 ≤ 9) (hPa : 0 ≤ mem 20 6 ∧ mem 20 6 ≤ 10) (hI : ∀ a : Nat, 22 ≤ a → a ≤ 28 → ∀ b : Nat, b < 8 → i32 (mem a b)) (hS : i32 (sumN (mem 27) (mem 21 0).toNat)) : Ret shp l yX7_hand cX7_hand 2 (some .int) 4 [pR 20, pI k] mem (fun rv mv => ∃ z, rv = some (pI z) ∧ (¬ (0 ≤ k ∧ k < mem 21 0) ∧ z = -1 ∧ mv = mem ∨ (0 ≤ k ∧ k < mem 21 0) ∧ (mem 24 k.toNat < 1 ∧ z = -2 ∧ mv = mem ∨ 1 ≤ mem 24 k.toNat ∧ (5 ≤ sumN (mem 27) (mem 21 0).toNat ∧ z = -3 ∧ mv = mem ∨ sumN (mem 27) (mem 21 0).toNat < 5 ∧ mv = mset (mset (remM mem) 24 k.toNat (mem 24 k.toNat - 1)) 27 k.toNat (mem 27 k.toNat + 1) ∧ z = sumN (mv 27) (mem 21 0).toNat)))) := by
  refine ret_of (by decide +kernel) (Nat.le_of_ble_eq_true rfl) (fun X hX F G => ?_)
  show Ok shp X 2 0 [(0, pR 20), (1, pI k)] [] mem
  refine ok_aload_n F dX7_hand_0 0 rfl ?_
  refine ok_iload_n F dX7_hand_1 1 rfl ?_
  refine ok_callv F [pI k] dX7_hand_2 kM_X7_hasKind kI_X7_hasKind kV_X7_hasKind kL_X7_106 (ci := 7) rfl sh_20 rfl (by decide) (Nat.le_of_ble_eq_true rfl) rfl (m_X7_hasKind _ k mem (by omega) (by omega)) ?_
  rintro _ _ ⟨rfl, rfl⟩
  refine ok_if_ne F 10 dX7_hand_5 (by decide) (by omega) (fun c_1 => ?_) (fun c_1 => ?_)
  · refine ok_aload_n F dX7_hand_10 0 rfl ?_
    refine ok_getr F dX7_hand_11 kF_X7_10 sh_20 rfl ?_
    refine ok_getr F dX7_hand_14 kF_X7_117 sh_21 rfl ?_
    refine ok_iload_n F dX7_hand_17 1 rfl ?_
    refine ok_iald (v := mem 24 k.toNat) F dX7_hand_18 sh_24 (by first | decide | assumption) (by omega) (by omega) rfl ?_
    refine ok_iconst F dX7_hand_19 ?_
    have q9 := hI 24 (by decide) (by decide) k.toNat (by omega)
    refine ok_icmp_ge F 26 dX7_hand_20 (by decide) (by omega) (by omega) (fun c_2 => ?_) (fun c_2 => ?_)
    · refine ok_aload_n F dX7_hand_26 0 rfl ?_
      refine ok_getr F dX7_hand_27 kF_X7_10 sh_20 rfl ?_
      refine ok_aload_n F dX7_hand_30 0 rfl ?_
      refine ok_getr F dX7_hand_31 kF_X7_10 sh_20 rfl ?_
      refine ok_getr F dX7_hand_34 kF_X7_120 sh_21 rfl ?_
      refine ok_callv F [pR 27] dX7_hand_37 kM_X6_piecesOf kI_X6_piecesOf kV_X6_piecesOf kL_X7_123 (ci := 6) rfl sh_21 rfl (by decide) (Nat.le_of_ble_eq_true rfl) rfl (m_X6_piecesOf _ 27 mem (by first | omega | exact sh_27) (by first | omega | exact sh_27)) ?_
      rintro _ _ ⟨rfl, rfl⟩
      refine ok_iconst F dX7_hand_40 ?_
      refine ok_icmp_lt F 47 dX7_hand_41 (by decide) (hS) (by omega) (fun c_3 => ?_) (fun c_3 => ?_)
      · refine ok_aload_n F dX7_hand_47 0 rfl ?_
        refine ok_callv F [] dX7_hand_48 kM_X7_remember kI_X7_remember kV_X7_remember kL_X7_114 (ci := 7) rfl sh_20 rfl (by decide) (Nat.le_of_ble_eq_true rfl) rfl (m_X7_remember _ mem (by omega) (by omega)) ?_
        rintro _ m_4 ⟨rfl, e_5⟩
        refine ok_aload_n F dX7_hand_51 0 rfl ?_
        refine ok_getr F dX7_hand_52 kF_X7_10 sh_20 rfl ?_
        refine ok_getr F dX7_hand_55 kF_X7_117 sh_21 rfl ?_
        refine ok_iload_n F dX7_hand_58 1 rfl ?_
        refine ok_dup2 F dX7_hand_59 rfl rfl ?_
        refine ok_iald (v := mem 24 k.toNat) F dX7_hand_60 sh_24 (by first | decide | assumption) (by omega) (by omega) (by rw [(remM_at (a := 24) e_5 hPn (by decide))] <;> rfl) ?_
        refine ok_iconst F dX7_hand_61 ?_
        refine ok_isub F dX7_hand_62 ?_
        refine ok_iast F dX7_hand_63 sh_24 (by first | decide | assumption) (by omega) (by omega) (fun m_6 e_7 => ?_)
        refine ok_aload_n F dX7_hand_64 0 rfl ?_
        refine ok_getr F dX7_hand_65 kF_X7_10 sh_20 rfl ?_
        refine ok_getr F dX7_hand_68 kF_X7_120 sh_21 rfl ?_
        refine ok_iload_n F dX7_hand_71 1 rfl ?_
        refine ok_dup2 F dX7_hand_72 rfl rfl ?_
        refine ok_iald (v := mem 27 k.toNat) F dX7_hand_73 sh_27 (by first | decide | assumption) (by omega) (by omega) (by rw [e_7, mset_nk (by decide), (remM_at (a := 27) e_5 hPn (by decide))] <;> rfl) ?_
        refine ok_iconst F dX7_hand_74 ?_
        refine ok_iadd F dX7_hand_75 ?_
        refine ok_iast F dX7_hand_76 sh_27 (by first | decide | assumption) (by omega) (by omega) (fun m_8 e_9 => ?_)
        refine ok_aload_n F dX7_hand_77 0 rfl ?_
        refine ok_getr F dX7_hand_78 kF_X7_10 sh_20 rfl ?_
        refine ok_aload_n F dX7_hand_81 0 rfl ?_
        refine ok_getr F dX7_hand_82 kF_X7_10 sh_20 rfl ?_
        refine ok_getr F dX7_hand_85 kF_X7_120 sh_21 rfl ?_
        refine ok_callv F [pR 27] dX7_hand_88 kM_X6_piecesOf kI_X6_piecesOf kV_X6_piecesOf kL_X7_123 (ci := 6) rfl sh_21 rfl (by decide) (Nat.le_of_ble_eq_true rfl) rfl (m_X6_piecesOf _ 27 m_8 (sh_27) (by subst_vars; rw [mset_nk (by decide), mset_nk (by decide), remM_at (a := 21) rfl hPn (by decide)]; exact hN)) ?_
        rintro _ _ ⟨rfl, rfl⟩
        refine ok_iret F G dX7_hand_91 ?_
        refine ⟨_, rfl, Or.inr ⟨by omega, Or.inr ⟨by omega, Or.inr ⟨by omega, ?_, ?_⟩⟩⟩⟩
        · subst_vars; rfl
        · have e21 : m_8 21 = mem 21 := by subst_vars; funext b; rw [mset_nk (by decide), mset_nk (by decide), remM_at (a := 21) rfl hPn (by decide)]
          rw [e21]
      · refine ok_bipush F dX7_hand_44 rfl ?_
        refine ok_iret F G dX7_hand_46 ?_
        exact ⟨_, rfl, Or.inr ⟨by omega, Or.inr ⟨by omega, Or.inl ⟨by omega, rfl, rfl⟩⟩⟩⟩
    · refine ok_bipush F dX7_hand_23 rfl ?_
      refine ok_iret F G dX7_hand_25 ?_
      exact ⟨_, rfl, Or.inr ⟨by omega, Or.inl ⟨by omega, rfl, rfl⟩⟩⟩
  · refine ok_iconst F dX7_hand_8 ?_
    refine ok_iret F G dX7_hand_9 ?_
    exact ⟨_, rfl, Or.inl ⟨by omega, rfl, rfl⟩⟩
theorem dX7_order_0 : decode cX7_order 0 = .ok (.aload_n 0, 1) := by decide +kernel
theorem dX7_order_1 : decode cX7_order 1 = .ok (.iload_n 1, 1) := by decide +kernel
theorem dX7_order_2 : decode cX7_order 2 = .ok (.invokevirtual 106, 3) := by decide +kernel
theorem dX7_order_5 : decode cX7_order 5 = .ok (.ifCond .eq 14, 3) := by decide +kernel
theorem dX7_order_8 : decode cX7_order 8 = .ok (.iload_n 2, 1) := by decide +kernel
theorem dX7_order_9 : decode cX7_order 9 = .ok (.iconst 1, 1) := by decide +kernel
theorem dX7_order_10 : decode cX7_order 10 = .ok (.if_icmp .lt 9, 3) := by decide +kernel
theorem dX7_order_13 : decode cX7_order 13 = .ok (.iload_n 2, 1) := by decide +kernel
theorem dX7_order_14 : decode cX7_order 14 = .ok (.bipush 9, 2) := by decide +kernel
theorem dX7_order_16 : decode cX7_order 16 = .ok (.if_icmp .le 5, 3) := by decide +kernel
theorem dX7_order_19 : decode cX7_order 19 = .ok (.iconst (-1), 1) := by decide +kernel
theorem dX7_order_20 : decode cX7_order 20 = .ok (.ireturn, 1) := by decide +kernel
theorem dX7_order_21 : decode cX7_order 21 = .ok (.aload_n 0, 1) := by decide +kernel
theorem dX7_order_22 : decode cX7_order 22 = .ok (.getfield 10, 3) := by decide +kernel
theorem dX7_order_25 : decode cX7_order 25 = .ok (.getfield 133, 3) := by decide +kernel
theorem dX7_order_28 : decode cX7_order 28 = .ok (.iload_n 1, 1) := by decide +kernel
theorem dX7_order_29 : decode cX7_order 29 = .ok (.iaload, 1) := by decide +kernel
theorem dX7_order_30 : decode cX7_order 30 = .ok (.iload_n 2, 1) := by decide +kernel
theorem dX7_order_31 : decode cX7_order 31 = .ok (.aload_n 0, 1) := by decide +kernel
theorem dX7_order_32 : decode cX7_order 32 = .ok (.getfield 10, 3) := by decide +kernel
theorem dX7_order_35 : decode cX7_order 35 = .ok (.getfield 173, 3) := by decide +kernel
theorem dX7_order_38 : decode cX7_order 38 = .ok (.iload_n 1, 1) := by decide +kernel
theorem dX7_order_39 : decode cX7_order 39 = .ok (.iaload, 1) := by decide +kernel
theorem dX7_order_40 : decode cX7_order 40 = .ok (.imul, 1) := by decide +kernel
theorem dX7_order_41 : decode cX7_order 41 = .ok (.iadd, 1) := by decide +kernel
theorem dX7_order_42 : decode cX7_order 42 = .ok (.istore_n 3, 1) := by decide +kernel
theorem dX7_order_43 : decode cX7_order 43 = .ok (.iload_n 3, 1) := by decide +kernel
theorem dX7_order_44 : decode cX7_order 44 = .ok (.bipush 100, 2) := by decide +kernel
theorem dX7_order_46 : decode cX7_order 46 = .ok (.if_icmp .lt 6, 3) := by decide +kernel
theorem dX7_order_49 : decode cX7_order 49 = .ok (.bipush (-2), 2) := by decide +kernel
theorem dX7_order_51 : decode cX7_order 51 = .ok (.ireturn, 1) := by decide +kernel
theorem dX7_order_52 : decode cX7_order 52 = .ok (.aload_n 0, 1) := by decide +kernel
theorem dX7_order_53 : decode cX7_order 53 = .ok (.invokevirtual 114, 3) := by decide +kernel
theorem dX7_order_56 : decode cX7_order 56 = .ok (.aload_n 0, 1) := by decide +kernel
theorem dX7_order_57 : decode cX7_order 57 = .ok (.getfield 10, 3) := by decide +kernel
theorem dX7_order_60 : decode cX7_order 60 = .ok (.getfield 133, 3) := by decide +kernel
theorem dX7_order_63 : decode cX7_order 63 = .ok (.iload_n 1, 1) := by decide +kernel
theorem dX7_order_64 : decode cX7_order 64 = .ok (.iload_n 3, 1) := by decide +kernel
theorem dX7_order_65 : decode cX7_order 65 = .ok (.iastore, 1) := by decide +kernel
theorem dX7_order_66 : decode cX7_order 66 = .ok (.iload_n 3, 1) := by decide +kernel
theorem dX7_order_67 : decode cX7_order 67 = .ok (.ireturn, 1) := by decide +kernel
set_option maxHeartbeats 4000000 in
set_option maxRecDepth 100000 in
theorem m_X7_order (l : Launch) (k : Int) (n : Int) (mem : Mem) (hk : i32 k) (hn : i32 n) (hN : 0 ≤ mem 21 0 ∧ mem 21 0 ≤ 8) (hPn : 0 ≤ mem 20 5 ∧ mem 20 5 ≤ 9) (hPa : 0 ≤ mem 20 6 ∧ mem 20 6 ≤ 10) (hTl : ∀ k : Nat, k < 8 → 0 ≤ mem 23 k ∧ mem 23 k ≤ 99) (hBg : ∀ k : Nat, k < 8 → 0 ≤ mem 26 k ∧ mem 26 k ≤ 99) : Ret shp l yX7_order cX7_order 4 (some .int) 4 [pR 20, pI k, pI n] mem (fun rv mv => ∃ z, rv = some (pI z) ∧ (¬ ((0 ≤ k ∧ k < mem 21 0) ∧ 1 ≤ n ∧ n ≤ 9) ∧ z = -1 ∧ mv = mem ∨ ((0 ≤ k ∧ k < mem 21 0) ∧ 1 ≤ n ∧ n ≤ 9) ∧ (99 < mem 23 k.toNat + n * mem 26 k.toNat ∧ z = -2 ∧ mv = mem ∨ mem 23 k.toNat + n * mem 26 k.toNat ≤ 99 ∧ z = mem 23 k.toNat + n * mem 26 k.toNat ∧ mv = mset (remM mem) 23 k.toNat (mem 23 k.toNat + n * mem 26 k.toNat)))) := by
  refine ret_of (by decide +kernel) (Nat.le_of_ble_eq_true rfl) (fun X hX F G => ?_)
  show Ok shp X 4 0 [(0, pR 20), (1, pI k), (2, pI n)] [] mem
  refine ok_aload_n F dX7_order_0 0 rfl ?_
  refine ok_iload_n F dX7_order_1 1 rfl ?_
  refine ok_callv F [pI k] dX7_order_2 kM_X7_hasKind kI_X7_hasKind kV_X7_hasKind kL_X7_106 (ci := 7) rfl sh_20 rfl (by decide) (Nat.le_of_ble_eq_true rfl) rfl (m_X7_hasKind _ k mem (by omega) (by omega)) ?_
  rintro _ _ ⟨rfl, rfl⟩
  refine ok_if_eq F 19 dX7_order_5 (by decide) (by omega) (fun c_1 => ?_) (fun c_1 => ?_)
  · refine ok_iconst F dX7_order_19 ?_
    refine ok_iret F G dX7_order_20 ?_
    exact ⟨_, rfl, Or.inl ⟨by omega, rfl, rfl⟩⟩
  · refine ok_iload_n F dX7_order_8 2 rfl ?_
    refine ok_iconst F dX7_order_9 ?_
    refine ok_icmp_lt F 19 dX7_order_10 (by decide) (by omega) (by omega) (fun c_2 => ?_) (fun c_2 => ?_)
    · refine ok_iconst F dX7_order_19 ?_
      refine ok_iret F G dX7_order_20 ?_
      exact ⟨_, rfl, Or.inl ⟨by omega, rfl, rfl⟩⟩
    · refine ok_iload_n F dX7_order_13 2 rfl ?_
      refine ok_bipush F dX7_order_14 rfl ?_
      refine ok_icmp_le F 21 dX7_order_16 (by decide) (by omega) (by omega) (fun c_3 => ?_) (fun c_3 => ?_)
      · refine ok_aload_n F dX7_order_21 0 rfl ?_
        refine ok_getr F dX7_order_22 kF_X7_10 sh_20 rfl ?_
        refine ok_getr F dX7_order_25 kF_X7_133 sh_21 rfl ?_
        refine ok_iload_n F dX7_order_28 1 rfl ?_
        refine ok_iald (v := mem 23 k.toNat) F dX7_order_29 sh_23 (by first | decide | assumption) (by omega) (by omega) rfl ?_
        refine ok_iload_n F dX7_order_30 2 rfl ?_
        refine ok_aload_n F dX7_order_31 0 rfl ?_
        refine ok_getr F dX7_order_32 kF_X7_10 sh_20 rfl ?_
        refine ok_getr F dX7_order_35 kF_X7_173 sh_21 rfl ?_
        refine ok_iload_n F dX7_order_38 1 rfl ?_
        refine ok_iald (v := mem 26 k.toNat) F dX7_order_39 sh_26 (by first | decide | assumption) (by omega) (by omega) rfl ?_
        refine ok_imul F dX7_order_40 ?_
        refine ok_iadd F dX7_order_41 ?_
        refine ok_istore_n (lv' := [(3, pI ((mem 23 k.toNat) + (n * (mem 26 k.toNat)))), (0, pR 20), (1, pI k), (2, pI n)]) F dX7_order_42 (by decide) rfl ?_
        have q1 := hTl k.toNat (by omega)
        have q2 := hBg k.toNat (by omega)
        have q3 : 0 ≤ n * mem 26 k.toNat ∧ n * mem 26 k.toNat ≤ 9 * 99 := ⟨Int.mul_nonneg (by omega) q2.1, Int.le_trans (Int.mul_le_mul_of_nonneg_right (by omega) q2.1) (Int.mul_le_mul_of_nonneg_left q2.2 (by omega))⟩
        refine ok_iload_n F dX7_order_43 0 rfl ?_
        refine ok_bipush F dX7_order_44 rfl ?_
        refine ok_icmp_lt F 52 dX7_order_46 (by decide) (by omega) (by omega) (fun c_4 => ?_) (fun c_4 => ?_)
        · refine ok_aload_n F dX7_order_52 1 rfl ?_
          refine ok_callv F [] dX7_order_53 kM_X7_remember kI_X7_remember kV_X7_remember kL_X7_114 (ci := 7) rfl sh_20 rfl (by decide) (Nat.le_of_ble_eq_true rfl) rfl (m_X7_remember _ mem (by omega) (by omega)) ?_
          rintro _ m_5 ⟨rfl, e_6⟩
          refine ok_aload_n F dX7_order_56 1 rfl ?_
          refine ok_getr F dX7_order_57 kF_X7_10 sh_20 rfl ?_
          refine ok_getr F dX7_order_60 kF_X7_133 sh_21 rfl ?_
          refine ok_iload_n F dX7_order_63 2 rfl ?_
          refine ok_iload_n F dX7_order_64 0 rfl ?_
          refine ok_iast F dX7_order_65 sh_23 (by first | decide | assumption) (by omega) (by omega) (fun m_7 e_8 => ?_)
          refine ok_iload_n F dX7_order_66 0 rfl ?_
          refine ok_iret F G dX7_order_67 ?_
          exact ⟨_, rfl, Or.inr ⟨by omega, Or.inr ⟨by omega, rfl, by subst_vars; rfl⟩⟩⟩
        · refine ok_bipush F dX7_order_49 rfl ?_
          refine ok_iret F G dX7_order_51 ?_
          exact ⟨_, rfl, Or.inr ⟨by omega, Or.inl ⟨by omega, rfl, rfl⟩⟩⟩
      · refine ok_iconst F dX7_order_19 ?_
        refine ok_iret F G dX7_order_20 ?_
        exact ⟨_, rfl, Or.inl ⟨by omega, rfl, rfl⟩⟩
theorem dX7_bank_0 : decode cX7_bank 0 = .ok (.aload_n 0, 1) := by decide +kernel
theorem dX7_bank_1 : decode cX7_bank 1 = .ok (.getfield 10, 3) := by decide +kernel
theorem dX7_bank_4 : decode cX7_bank 4 = .ok (.getfield 103, 3) := by decide +kernel
theorem dX7_bank_7 : decode cX7_bank 7 = .ok (.ifCond .ne 5, 3) := by decide +kernel
theorem dX7_bank_10 : decode cX7_bank 10 = .ok (.iconst (-1), 1) := by decide +kernel
theorem dX7_bank_11 : decode cX7_bank 11 = .ok (.ireturn, 1) := by decide +kernel
theorem dX7_bank_12 : decode cX7_bank 12 = .ok (.iconst 0, 1) := by decide +kernel
theorem dX7_bank_13 : decode cX7_bank 13 = .ok (.istore_n 1, 1) := by decide +kernel
theorem dX7_bank_14 : decode cX7_bank 14 = .ok (.iconst 0, 1) := by decide +kernel
theorem dX7_bank_15 : decode cX7_bank 15 = .ok (.istore_n 2, 1) := by decide +kernel
theorem dX7_bank_16 : decode cX7_bank 16 = .ok (.iload_n 2, 1) := by decide +kernel
theorem dX7_bank_17 : decode cX7_bank 17 = .ok (.aload_n 0, 1) := by decide +kernel
theorem dX7_bank_18 : decode cX7_bank 18 = .ok (.getfield 10, 3) := by decide +kernel
theorem dX7_bank_21 : decode cX7_bank 21 = .ok (.getfield 103, 3) := by decide +kernel
theorem dX7_bank_24 : decode cX7_bank 24 = .ok (.if_icmp .ge 35, 3) := by decide +kernel
theorem dX7_bank_27 : decode cX7_bank 27 = .ok (.iload_n 1, 1) := by decide +kernel
theorem dX7_bank_28 : decode cX7_bank 28 = .ok (.iconst 0, 1) := by decide +kernel
theorem dX7_bank_29 : decode cX7_bank 29 = .ok (.aload_n 0, 1) := by decide +kernel
theorem dX7_bank_30 : decode cX7_bank 30 = .ok (.getfield 10, 3) := by decide +kernel
theorem dX7_bank_33 : decode cX7_bank 33 = .ok (.getfield 133, 3) := by decide +kernel
theorem dX7_bank_36 : decode cX7_bank 36 = .ok (.iload_n 2, 1) := by decide +kernel
theorem dX7_bank_37 : decode cX7_bank 37 = .ok (.iaload, 1) := by decide +kernel
theorem dX7_bank_38 : decode cX7_bank 38 = .ok (.aload_n 0, 1) := by decide +kernel
theorem dX7_bank_39 : decode cX7_bank 39 = .ok (.getfield 10, 3) := by decide +kernel
theorem dX7_bank_42 : decode cX7_bank 42 = .ok (.getfield 161, 3) := by decide +kernel
theorem dX7_bank_45 : decode cX7_bank 45 = .ok (.iload_n 2, 1) := by decide +kernel
theorem dX7_bank_46 : decode cX7_bank 46 = .ok (.iaload, 1) := by decide +kernel
theorem dX7_bank_47 : decode cX7_bank 47 = .ok (.isub, 1) := by decide +kernel
theorem dX7_bank_48 : decode cX7_bank 48 = .ok (.invokestatic 164, 3) := by decide +kernel
theorem dX7_bank_51 : decode cX7_bank 51 = .ok (.iadd, 1) := by decide +kernel
theorem dX7_bank_52 : decode cX7_bank 52 = .ok (.istore_n 1, 1) := by decide +kernel
theorem dX7_bank_53 : decode cX7_bank 53 = .ok (.iinc 2 1, 3) := by decide +kernel
theorem dX7_bank_56 : decode cX7_bank 56 = .ok (.goto (-40), 3) := by decide +kernel
theorem dX7_bank_59 : decode cX7_bank 59 = .ok (.iload_n 1, 1) := by decide +kernel
theorem dX7_bank_60 : decode cX7_bank 60 = .ok (.ifCond .ne 6, 3) := by decide +kernel
theorem dX7_bank_63 : decode cX7_bank 63 = .ok (.bipush (-2), 2) := by decide +kernel
theorem dX7_bank_65 : decode cX7_bank 65 = .ok (.ireturn, 1) := by decide +kernel
theorem dX7_bank_66 : decode cX7_bank 66 = .ok (.aload_n 0, 1) := by decide +kernel
theorem dX7_bank_67 : decode cX7_bank 67 = .ok (.invokevirtual 114, 3) := by decide +kernel
theorem dX7_bank_70 : decode cX7_bank 70 = .ok (.iconst 0, 1) := by decide +kernel
theorem dX7_bank_71 : decode cX7_bank 71 = .ok (.istore_n 2, 1) := by decide +kernel
theorem dX7_bank_72 : decode cX7_bank 72 = .ok (.iload_n 2, 1) := by decide +kernel
theorem dX7_bank_73 : decode cX7_bank 73 = .ok (.aload_n 0, 1) := by decide +kernel
theorem dX7_bank_74 : decode cX7_bank 74 = .ok (.getfield 10, 3) := by decide +kernel
theorem dX7_bank_77 : decode cX7_bank 77 = .ok (.getfield 103, 3) := by decide +kernel
theorem dX7_bank_80 : decode cX7_bank 80 = .ok (.if_icmp .ge 59, 3) := by decide +kernel
theorem dX7_bank_83 : decode cX7_bank 83 = .ok (.iconst 0, 1) := by decide +kernel
theorem dX7_bank_84 : decode cX7_bank 84 = .ok (.aload_n 0, 1) := by decide +kernel
theorem dX7_bank_85 : decode cX7_bank 85 = .ok (.getfield 10, 3) := by decide +kernel
theorem dX7_bank_88 : decode cX7_bank 88 = .ok (.getfield 133, 3) := by decide +kernel
theorem dX7_bank_91 : decode cX7_bank 91 = .ok (.iload_n 2, 1) := by decide +kernel
theorem dX7_bank_92 : decode cX7_bank 92 = .ok (.iaload, 1) := by decide +kernel
theorem dX7_bank_93 : decode cX7_bank 93 = .ok (.aload_n 0, 1) := by decide +kernel
theorem dX7_bank_94 : decode cX7_bank 94 = .ok (.getfield 10, 3) := by decide +kernel
theorem dX7_bank_97 : decode cX7_bank 97 = .ok (.getfield 161, 3) := by decide +kernel
theorem dX7_bank_100 : decode cX7_bank 100 = .ok (.iload_n 2, 1) := by decide +kernel
theorem dX7_bank_101 : decode cX7_bank 101 = .ok (.iaload, 1) := by decide +kernel
theorem dX7_bank_102 : decode cX7_bank 102 = .ok (.isub, 1) := by decide +kernel
theorem dX7_bank_103 : decode cX7_bank 103 = .ok (.invokestatic 164, 3) := by decide +kernel
theorem dX7_bank_106 : decode cX7_bank 106 = .ok (.istore_n 3, 1) := by decide +kernel
theorem dX7_bank_107 : decode cX7_bank 107 = .ok (.aload_n 0, 1) := by decide +kernel
theorem dX7_bank_108 : decode cX7_bank 108 = .ok (.getfield 10, 3) := by decide +kernel
theorem dX7_bank_111 : decode cX7_bank 111 = .ok (.getfield 133, 3) := by decide +kernel
theorem dX7_bank_114 : decode cX7_bank 114 = .ok (.iload_n 2, 1) := by decide +kernel
theorem dX7_bank_115 : decode cX7_bank 115 = .ok (.dup2, 1) := by decide +kernel
theorem dX7_bank_116 : decode cX7_bank 116 = .ok (.iaload, 1) := by decide +kernel
theorem dX7_bank_117 : decode cX7_bank 117 = .ok (.iload_n 3, 1) := by decide +kernel
theorem dX7_bank_118 : decode cX7_bank 118 = .ok (.isub, 1) := by decide +kernel
theorem dX7_bank_119 : decode cX7_bank 119 = .ok (.iastore, 1) := by decide +kernel
theorem dX7_bank_120 : decode cX7_bank 120 = .ok (.aload_n 0, 1) := by decide +kernel
theorem dX7_bank_121 : decode cX7_bank 121 = .ok (.getfield 10, 3) := by decide +kernel
theorem dX7_bank_124 : decode cX7_bank 124 = .ok (.getfield 170, 3) := by decide +kernel
theorem dX7_bank_127 : decode cX7_bank 127 = .ok (.iload_n 2, 1) := by decide +kernel
theorem dX7_bank_128 : decode cX7_bank 128 = .ok (.dup2, 1) := by decide +kernel
theorem dX7_bank_129 : decode cX7_bank 129 = .ok (.iaload, 1) := by decide +kernel
theorem dX7_bank_130 : decode cX7_bank 130 = .ok (.iload_n 3, 1) := by decide +kernel
theorem dX7_bank_131 : decode cX7_bank 131 = .ok (.iadd, 1) := by decide +kernel
theorem dX7_bank_132 : decode cX7_bank 132 = .ok (.iastore, 1) := by decide +kernel
theorem dX7_bank_133 : decode cX7_bank 133 = .ok (.iinc 2 1, 3) := by decide +kernel
theorem dX7_bank_136 : decode cX7_bank 136 = .ok (.goto (-64), 3) := by decide +kernel
theorem dX7_bank_139 : decode cX7_bank 139 = .ok (.iload_n 1, 1) := by decide +kernel
theorem dX7_bank_140 : decode cX7_bank 140 = .ok (.ireturn, 1) := by decide +kernel
set_option maxHeartbeats 4000000 in
set_option maxRecDepth 100000 in
theorem m_X7_bank (l : Launch) (mem : Mem) (hN : 0 ≤ mem 21 0 ∧ mem 21 0 ≤ 8) (hPn : 0 ≤ mem 20 5 ∧ mem 20 5 ≤ 9) (hPa : 0 ≤ mem 20 6 ∧ mem 20 6 ≤ 10) (hTl : ∀ k : Nat, k < 8 → 0 ≤ mem 23 k ∧ mem 23 k ≤ 99) (hLm : ∀ k : Nat, k < 8 → 0 ≤ mem 25 k ∧ mem 25 k ≤ 99) : Ret shp l yX7_bank cX7_bank 4 (some .int) 4 [pR 20] mem (fun rv mv => ∃ z, rv = some (pI z) ∧ (mem 21 0 = 0 ∧ z = -1 ∧ mv = mem ∨ mem 21 0 ≠ 0 ∧ (sumN (abvC mem) (mem 21 0).toNat = 0 ∧ z = -2 ∧ mv = mem ∨ sumN (abvC mem) (mem 21 0).toNat ≠ 0 ∧ z = sumN (abvC mem) (mem 21 0).toNat ∧ mv = bankC (remM mem) (mem 21 0).toNat))) := by
  refine ret_of (by decide +kernel) (Nat.le_of_ble_eq_true rfl) (fun X hX F G => ?_)
  show Ok shp X 4 0 [(0, pR 20)] [] mem
  refine ok_aload_n F dX7_bank_0 0 rfl ?_
  refine ok_getr F dX7_bank_1 kF_X7_10 sh_20 rfl ?_
  refine ok_getf (v := mem 21 0) F dX7_bank_4 kF_X7_103 sh_21 rfl rfl ?_
  refine ok_if_ne F 12 dX7_bank_7 (by decide) (by omega) (fun c_1 => ?_) (fun c_1 => ?_)
  · refine ok_iconst F dX7_bank_12 ?_
    refine ok_istore_n (lv' := [(1, pI 0), (0, pR 20)]) F dX7_bank_13 (by decide) rfl ?_
    refine ok_iconst F dX7_bank_14 ?_
    refine ok_istore_n (lv' := [(2, pI 0), (1, pI 0), (0, pR 20)]) F dX7_bank_15 (by decide) rfl ?_
    have hL_16 : ∀ (n_16 : Nat) (n1 : Int) (k : Int), (0 ≤ k ∧ k ≤ mem 21 0 ∧ n1 = sumN (abvC mem) k.toNat) → (mem 21 0 - k).toNat = n_16 → Ok shp X 4 16 [(0, pR 20), (1, pI n1), (2, pI k)] [] mem := by
      intro n_16
      induction n_16 using Nat.strongRecOn with
      | _ n_16 ih_16 =>
        intro n1 k hI_16 hn_16
        refine ok_iload_n F dX7_bank_16 2 rfl ?_
        refine ok_aload_n F dX7_bank_17 0 rfl ?_
        refine ok_getr F dX7_bank_18 kF_X7_10 sh_20 rfl ?_
        refine ok_getf (v := mem 21 0) F dX7_bank_21 kF_X7_103 sh_21 rfl rfl ?_
        refine ok_icmp_ge F 59 dX7_bank_24 (by decide) (by omega) (by omega) (fun c_2 => ?_) (fun c_2 => ?_)
        · refine ok_iload_n F dX7_bank_59 1 rfl ?_
          have q0 := sumN_bd (f := abvC mem) (B := 99) (n := k.toNat) (fun i hi => by have := hTl i (by omega); have := hLm i (by omega); unfold abvC; omega)
          have q9 : (k.toNat : Int) * 99 ≤ 8 * 99 := by omega
          refine ok_if_ne F 66 dX7_bank_60 (by decide) (by omega) (fun c_3 => ?_) (fun c_3 => ?_)
          · refine ok_aload_n F dX7_bank_66 0 rfl ?_
            refine ok_callv F [] dX7_bank_67 kM_X7_remember kI_X7_remember kV_X7_remember kL_X7_114 (ci := 7) rfl sh_20 rfl (by decide) (Nat.le_of_ble_eq_true rfl) rfl (m_X7_remember _ mem (by omega) (by omega)) ?_
            rintro _ m_4 ⟨rfl, e_5⟩
            refine ok_iconst F dX7_bank_70 ?_
            refine ok_istore_n (lv' := [(2, pI 0), (0, pR 20), (1, pI n1)]) F dX7_bank_71 (by decide) rfl ?_
            obtain ⟨m1, hm1⟩ : ∃ x, x = m_4 := ⟨_, rfl⟩
            have hpp : m1 = remM mem := by rw [hm1]; assumption
            have hp : ∀ a, 21 ≤ a → a < 32 → m1 a = mem a := fun a h1 h2 => remM_at hpp hPn (by omega)
            have hL_72 : ∀ (n_72 : Nat) (j : Int) (m : Mem), (0 ≤ j ∧ j ≤ mem 21 0 ∧ m = bankC m1 j.toNat) → (mem 21 0 - j).toNat = n_72 → Ok shp X 4 72 [(0, pR 20), (1, pI n1), (2, pI j)] [] m := by
              intro n_72
              induction n_72 using Nat.strongRecOn with
              | _ n_72 ih_72 =>
                intro j m hI_72 hn_72
                have hN0 : m 21 0 = mem 21 0 := by rw [hI_72.2.2, ← hp 21 (by decide) (by decide)]; unfold bankC; rw [if_neg (by omega), if_neg (by omega)]
                refine ok_iload_n F dX7_bank_72 2 rfl ?_
                refine ok_aload_n F dX7_bank_73 0 rfl ?_
                refine ok_getr F dX7_bank_74 kF_X7_10 sh_20 rfl ?_
                refine ok_getf (v := m 21 0) F dX7_bank_77 kF_X7_103 sh_21 rfl rfl ?_
                refine ok_icmp_ge F 139 dX7_bank_80 (by decide) (by omega) (by omega) (fun c_6 => ?_) (fun c_6 => ?_)
                · refine ok_iload_n F dX7_bank_139 1 rfl ?_
                  refine ok_iret F G dX7_bank_140 ?_
                  have ek : mem 21 0 = k := by omega
                  refine ⟨_, rfl, Or.inr ⟨by omega, Or.inr ⟨by rw [ek, ← hI_16.2.2]; omega, by rw [ek]; exact hI_16.2.2, ?_⟩⟩⟩
                  rw [hI_72.2.2, show j = mem 21 0 by omega, hpp]
                · have q1 := hTl j.toNat (by omega)
                  have q2 := hLm j.toNat (by omega)
                  obtain ⟨b1, b2, b3⟩ := bankC_at (mem := m1) (Nat.le_refl j.toNat)
                  rw [← hI_72.2.2, hp 23 (by decide) (by decide)] at b1
                  rw [← hI_72.2.2, hp 25 (by decide) (by decide)] at b2
                  rw [← b1] at q1
                  rw [← b2] at q2
                  refine ok_iconst F dX7_bank_83 ?_
                  refine ok_aload_n F dX7_bank_84 0 rfl ?_
                  refine ok_getr F dX7_bank_85 kF_X7_10 sh_20 rfl ?_
                  refine ok_getr F dX7_bank_88 kF_X7_133 sh_21 rfl ?_
                  refine ok_iload_n F dX7_bank_91 2 rfl ?_
                  refine ok_iald (v := m 23 j.toNat) F dX7_bank_92 sh_23 (by first | decide | assumption) (by omega) (by omega) rfl ?_
                  refine ok_aload_n F dX7_bank_93 0 rfl ?_
                  refine ok_getr F dX7_bank_94 kF_X7_10 sh_20 rfl ?_
                  refine ok_getr F dX7_bank_97 kF_X7_161 sh_21 rfl ?_
                  refine ok_iload_n F dX7_bank_100 2 rfl ?_
                  refine ok_iald (v := m 25 j.toNat) F dX7_bank_101 sh_25 (by first | decide | assumption) (by omega) (by omega) rfl ?_
                  refine ok_isub F dX7_bank_102 ?_
                  refine ok_mmax F dX7_bank_103 kL_X7_164 kS_J9_max_7cf53 kM_J9_max_7cf53.2.1 kM_J9_max_7cf53.2.2.1 (by omega) (by omega) (by decide) (Nat.le_of_ble_eq_true rfl) ?_
                  refine ok_istore_n (lv' := [(3, pI (max 0 ((m 23 j.toNat) - (m 25 j.toNat)))), (0, pR 20), (1, pI n1), (2, pI j)]) F dX7_bank_106 (by decide) rfl ?_
                  refine ok_aload_n F dX7_bank_107 1 rfl ?_
                  refine ok_getr F dX7_bank_108 kF_X7_10 sh_20 rfl ?_
                  refine ok_getr F dX7_bank_111 kF_X7_133 sh_21 rfl ?_
                  refine ok_iload_n F dX7_bank_114 3 rfl ?_
                  refine ok_dup2 F dX7_bank_115 rfl rfl ?_
                  refine ok_iald (v := m 23 j.toNat) F dX7_bank_116 sh_23 (by first | decide | assumption) (by omega) (by omega) rfl ?_
                  refine ok_iload_n F dX7_bank_117 0 rfl ?_
                  refine ok_isub F dX7_bank_118 ?_
                  refine ok_iast F dX7_bank_119 sh_23 (by first | decide | assumption) (by omega) (by omega) (fun m_7 e_8 => ?_)
                  refine ok_aload_n F dX7_bank_120 1 rfl ?_
                  refine ok_getr F dX7_bank_121 kF_X7_10 sh_20 rfl ?_
                  refine ok_getr F dX7_bank_124 kF_X7_170 sh_21 rfl ?_
                  refine ok_iload_n F dX7_bank_127 3 rfl ?_
                  refine ok_dup2 F dX7_bank_128 rfl rfl ?_
                  refine ok_iald (v := m 28 j.toNat) F dX7_bank_129 sh_28 (by first | decide | assumption) (by omega) (by omega) (by rw [e_8, mset_nk (by decide)] <;> rfl) ?_
                  refine ok_iload_n F dX7_bank_130 0 rfl ?_
                  refine ok_iadd F dX7_bank_131 ?_
                  refine ok_iast F dX7_bank_132 sh_28 (by first | decide | assumption) (by omega) (by omega) (fun m_9 e_10 => ?_)
                  refine ok_iinc (lv' := [(2, pI (j + 1)), (3, pI (max 0 ((m 23 j.toNat) - (m 25 j.toNat)))), (0, pR 20), (1, pI n1)]) F dX7_bank_133 3 rfl (by decide) rfl ?_
                  refine ok_goto F 72 dX7_bank_136 (by decide) ?_
                  refine ok_lvp [2, 3, 0] (lv' := [(0, pR 20), (1, pI n1), (2, pI (j + 1))]) rfl ?_
                  refine ih_72 _ ?_ (j + 1) m_9 ?_ rfl
                  · omega
                  · refine ⟨by omega, by omega, ?_⟩
                    rw [e_10, e_8, show (j + 1).toNat = j.toNat + 1 by omega, ← bankC_s]
                    obtain ⟨b1, b2, b3⟩ := bankC_at (mem := m1) (Nat.le_refl j.toNat)
                    rw [hI_72.2.2, b1, b2, b3]
                    rfl
            refine ok_lvp [1, 2, 0] (lv' := [(0, pR 20), (1, pI n1), (2, pI 0)]) rfl ?_
            refine hL_72 _ 0 m_4 ?_ rfl
            exact ⟨by omega, by omega, by rw [hm1]; exact (bankC_0 _).symm⟩
          · refine ok_bipush F dX7_bank_63 rfl ?_
            refine ok_iret F G dX7_bank_65 ?_
            exact ⟨_, rfl, Or.inr ⟨by omega, Or.inl ⟨by rw [show mem 21 0 = k by omega, ← hI_16.2.2]; omega, rfl, rfl⟩⟩⟩
        · have q1 := hTl k.toNat (by omega)
          have q2 := hLm k.toNat (by omega)
          refine ok_iload_n F dX7_bank_27 1 rfl ?_
          refine ok_iconst F dX7_bank_28 ?_
          refine ok_aload_n F dX7_bank_29 0 rfl ?_
          refine ok_getr F dX7_bank_30 kF_X7_10 sh_20 rfl ?_
          refine ok_getr F dX7_bank_33 kF_X7_133 sh_21 rfl ?_
          refine ok_iload_n F dX7_bank_36 2 rfl ?_
          refine ok_iald (v := mem 23 k.toNat) F dX7_bank_37 sh_23 (by first | decide | assumption) (by omega) (by omega) rfl ?_
          refine ok_aload_n F dX7_bank_38 0 rfl ?_
          refine ok_getr F dX7_bank_39 kF_X7_10 sh_20 rfl ?_
          refine ok_getr F dX7_bank_42 kF_X7_161 sh_21 rfl ?_
          refine ok_iload_n F dX7_bank_45 2 rfl ?_
          refine ok_iald (v := mem 25 k.toNat) F dX7_bank_46 sh_25 (by first | decide | assumption) (by omega) (by omega) rfl ?_
          refine ok_isub F dX7_bank_47 ?_
          refine ok_mmax F dX7_bank_48 kL_X7_164 kS_J9_max_7cf53 kM_J9_max_7cf53.2.1 kM_J9_max_7cf53.2.2.1 (by omega) (by omega) (by decide) (Nat.le_of_ble_eq_true rfl) ?_
          refine ok_iadd F dX7_bank_51 ?_
          refine ok_istore_n (lv' := [(1, pI (n1 + (max 0 ((mem 23 k.toNat) - (mem 25 k.toNat))))), (0, pR 20), (2, pI k)]) F dX7_bank_52 (by decide) rfl ?_
          refine ok_iinc (lv' := [(2, pI (k + 1)), (1, pI (n1 + (max 0 ((mem 23 k.toNat) - (mem 25 k.toNat))))), (0, pR 20)]) F dX7_bank_53 2 rfl (by decide) rfl ?_
          refine ok_goto F 16 dX7_bank_56 (by decide) ?_
          refine ok_lvp [2, 1, 0] (lv' := [(0, pR 20), (1, pI (n1 + (max 0 ((mem 23 k.toNat) - (mem 25 k.toNat))))), (2, pI (k + 1))]) rfl ?_
          refine ih_16 _ ?_ (n1 + (max 0 ((mem 23 k.toNat) - (mem 25 k.toNat)))) (k + 1) ?_ rfl
          · omega
          · refine ⟨by omega, by omega, ?_⟩
            rw [sumN_s _ hI_16.1, hI_16.2.2, abvC]
    refine ok_lvp [2, 1, 0] (lv' := [(0, pR 20), (1, pI 0), (2, pI 0)]) rfl ?_
    refine hL_16 _ 0 0 ?_ rfl
    exact ⟨by omega, by omega, rfl⟩
  · refine ok_iconst F dX7_bank_10 ?_
    refine ok_iret F G dX7_bank_11 ?_
    exact ⟨_, rfl, Or.inl ⟨by omega, rfl, rfl⟩⟩
theorem dX7_kind_0 : decode cX7_kind 0 = .ok (.aload_n 0, 1) := by decide +kernel
theorem dX7_kind_1 : decode cX7_kind 1 = .ok (.iload_n 1, 1) := by decide +kernel
theorem dX7_kind_2 : decode cX7_kind 2 = .ok (.invokevirtual 106, 3) := by decide +kernel
theorem dX7_kind_5 : decode cX7_kind 5 = .ok (.ifCond .ne 5, 3) := by decide +kernel
theorem dX7_kind_8 : decode cX7_kind 8 = .ok (.iconst (-1), 1) := by decide +kernel
theorem dX7_kind_9 : decode cX7_kind 9 = .ok (.ireturn, 1) := by decide +kernel
theorem dX7_kind_10 : decode cX7_kind 10 = .ok (.iload_n 2, 1) := by decide +kernel
theorem dX7_kind_11 : decode cX7_kind 11 = .ok (.tableswitch 111 0 6 #[41, 51, 61, 71, 81, 91, 101], 41) := by decide +kernel
theorem dX7_kind_52 : decode cX7_kind 52 = .ok (.aload_n 0, 1) := by decide +kernel
theorem dX7_kind_53 : decode cX7_kind 53 = .ok (.getfield 10, 3) := by decide +kernel
theorem dX7_kind_56 : decode cX7_kind 56 = .ok (.getfield 186, 3) := by decide +kernel
theorem dX7_kind_59 : decode cX7_kind 59 = .ok (.iload_n 1, 1) := by decide +kernel
theorem dX7_kind_60 : decode cX7_kind 60 = .ok (.iaload, 1) := by decide +kernel
theorem dX7_kind_61 : decode cX7_kind 61 = .ok (.ireturn, 1) := by decide +kernel
theorem dX7_kind_62 : decode cX7_kind 62 = .ok (.aload_n 0, 1) := by decide +kernel
theorem dX7_kind_63 : decode cX7_kind 63 = .ok (.getfield 10, 3) := by decide +kernel
theorem dX7_kind_66 : decode cX7_kind 66 = .ok (.getfield 133, 3) := by decide +kernel
theorem dX7_kind_69 : decode cX7_kind 69 = .ok (.iload_n 1, 1) := by decide +kernel
theorem dX7_kind_70 : decode cX7_kind 70 = .ok (.iaload, 1) := by decide +kernel
theorem dX7_kind_71 : decode cX7_kind 71 = .ok (.ireturn, 1) := by decide +kernel
theorem dX7_kind_72 : decode cX7_kind 72 = .ok (.aload_n 0, 1) := by decide +kernel
theorem dX7_kind_73 : decode cX7_kind 73 = .ok (.getfield 10, 3) := by decide +kernel
theorem dX7_kind_76 : decode cX7_kind 76 = .ok (.getfield 117, 3) := by decide +kernel
theorem dX7_kind_79 : decode cX7_kind 79 = .ok (.iload_n 1, 1) := by decide +kernel
theorem dX7_kind_80 : decode cX7_kind 80 = .ok (.iaload, 1) := by decide +kernel
theorem dX7_kind_81 : decode cX7_kind 81 = .ok (.ireturn, 1) := by decide +kernel
theorem dX7_kind_82 : decode cX7_kind 82 = .ok (.aload_n 0, 1) := by decide +kernel
theorem dX7_kind_83 : decode cX7_kind 83 = .ok (.getfield 10, 3) := by decide +kernel
theorem dX7_kind_86 : decode cX7_kind 86 = .ok (.getfield 161, 3) := by decide +kernel
theorem dX7_kind_89 : decode cX7_kind 89 = .ok (.iload_n 1, 1) := by decide +kernel
theorem dX7_kind_90 : decode cX7_kind 90 = .ok (.iaload, 1) := by decide +kernel
theorem dX7_kind_91 : decode cX7_kind 91 = .ok (.ireturn, 1) := by decide +kernel
theorem dX7_kind_92 : decode cX7_kind 92 = .ok (.aload_n 0, 1) := by decide +kernel
theorem dX7_kind_93 : decode cX7_kind 93 = .ok (.getfield 10, 3) := by decide +kernel
theorem dX7_kind_96 : decode cX7_kind 96 = .ok (.getfield 173, 3) := by decide +kernel
theorem dX7_kind_99 : decode cX7_kind 99 = .ok (.iload_n 1, 1) := by decide +kernel
theorem dX7_kind_100 : decode cX7_kind 100 = .ok (.iaload, 1) := by decide +kernel
theorem dX7_kind_101 : decode cX7_kind 101 = .ok (.ireturn, 1) := by decide +kernel
theorem dX7_kind_102 : decode cX7_kind 102 = .ok (.aload_n 0, 1) := by decide +kernel
theorem dX7_kind_103 : decode cX7_kind 103 = .ok (.getfield 10, 3) := by decide +kernel
theorem dX7_kind_106 : decode cX7_kind 106 = .ok (.getfield 120, 3) := by decide +kernel
theorem dX7_kind_109 : decode cX7_kind 109 = .ok (.iload_n 1, 1) := by decide +kernel
theorem dX7_kind_110 : decode cX7_kind 110 = .ok (.iaload, 1) := by decide +kernel
theorem dX7_kind_111 : decode cX7_kind 111 = .ok (.ireturn, 1) := by decide +kernel
theorem dX7_kind_112 : decode cX7_kind 112 = .ok (.aload_n 0, 1) := by decide +kernel
theorem dX7_kind_113 : decode cX7_kind 113 = .ok (.getfield 10, 3) := by decide +kernel
theorem dX7_kind_116 : decode cX7_kind 116 = .ok (.getfield 170, 3) := by decide +kernel
theorem dX7_kind_119 : decode cX7_kind 119 = .ok (.iload_n 1, 1) := by decide +kernel
theorem dX7_kind_120 : decode cX7_kind 120 = .ok (.iaload, 1) := by decide +kernel
theorem dX7_kind_121 : decode cX7_kind 121 = .ok (.ireturn, 1) := by decide +kernel
theorem dX7_kind_122 : decode cX7_kind 122 = .ok (.iconst (-1), 1) := by decide +kernel
theorem dX7_kind_123 : decode cX7_kind 123 = .ok (.ireturn, 1) := by decide +kernel
set_option maxHeartbeats 4000000 in
set_option maxRecDepth 100000 in
theorem m_X7_kind (l : Launch) (k : Int) (w : Int) (mem : Mem) (hk : i32 k) (hw : i32 w) (hN : 0 ≤ mem 21 0 ∧ mem 21 0 ≤ 8) : Ret shp l yX7_kind cX7_kind 3 (some .int) 1 [pR 20, pI k, pI w] mem (fun rv mv => rv = some (pI (if (0 ≤ k ∧ k < mem 21 0) ∧ 0 ≤ w ∧ w ≤ 6 then mem (22 + w.toNat) k.toNat else -1)) ∧ mem = mv) := by
  refine ret_of (by decide +kernel) (Nat.le_of_ble_eq_true rfl) (fun X hX F G => ?_)
  show Ok shp X 3 0 [(0, pR 20), (1, pI k), (2, pI w)] [] mem
  refine ok_aload_n F dX7_kind_0 0 rfl ?_
  refine ok_iload_n F dX7_kind_1 1 rfl ?_
  refine ok_callv F [pI k] dX7_kind_2 kM_X7_hasKind kI_X7_hasKind kV_X7_hasKind kL_X7_106 (ci := 7) rfl sh_20 rfl (by decide) (Nat.le_of_ble_eq_true rfl) rfl (m_X7_hasKind _ k mem (by omega) (by omega)) ?_
  rintro _ _ ⟨rfl, rfl⟩
  refine ok_if_ne F 10 dX7_kind_5 (by decide) (by omega) (fun c_1 => ?_) (fun c_1 => ?_)
  · refine ok_iload_n F dX7_kind_10 2 rfl ?_
    by_cases c_2o : w < 0 ∨ 6 < w
    · refine ok_tabOut F 122 dX7_kind_11 (by omega) c_2o (by decide) ?_
      refine ok_iconst F dX7_kind_122 ?_
      refine ok_iret F G dX7_kind_123 ?_
      exact ⟨by rw [if_neg (by omega)], rfl⟩
    by_cases c_2_0 : w = 0
    · refine ok_tabIn F 52 dX7_kind_11 (by omega) (by omega) (by omega) (off := 41) (by rw [c_2_0]; rfl) (by decide) ?_
      refine ok_aload_n F dX7_kind_52 0 rfl ?_
      refine ok_getr F dX7_kind_53 kF_X7_10 sh_20 rfl ?_
      refine ok_getr F dX7_kind_56 kF_X7_186 sh_21 rfl ?_
      refine ok_iload_n F dX7_kind_59 1 rfl ?_
      refine ok_iald (v := mem 22 k.toNat) F dX7_kind_60 sh_22 (by first | decide | assumption) (by omega) (by omega) rfl ?_
      refine ok_iret F G dX7_kind_61 ?_
      refine ⟨?_, rfl⟩
      rw [if_pos (by omega)]
      subst w
      rfl
    by_cases c_2_1 : w = 1
    · refine ok_tabIn F 62 dX7_kind_11 (by omega) (by omega) (by omega) (off := 51) (by rw [c_2_1]; rfl) (by decide) ?_
      refine ok_aload_n F dX7_kind_62 0 rfl ?_
      refine ok_getr F dX7_kind_63 kF_X7_10 sh_20 rfl ?_
      refine ok_getr F dX7_kind_66 kF_X7_133 sh_21 rfl ?_
      refine ok_iload_n F dX7_kind_69 1 rfl ?_
      refine ok_iald (v := mem 23 k.toNat) F dX7_kind_70 sh_23 (by first | decide | assumption) (by omega) (by omega) rfl ?_
      refine ok_iret F G dX7_kind_71 ?_
      refine ⟨?_, rfl⟩
      rw [if_pos (by omega)]
      subst w
      rfl
    by_cases c_2_2 : w = 2
    · refine ok_tabIn F 72 dX7_kind_11 (by omega) (by omega) (by omega) (off := 61) (by rw [c_2_2]; rfl) (by decide) ?_
      refine ok_aload_n F dX7_kind_72 0 rfl ?_
      refine ok_getr F dX7_kind_73 kF_X7_10 sh_20 rfl ?_
      refine ok_getr F dX7_kind_76 kF_X7_117 sh_21 rfl ?_
      refine ok_iload_n F dX7_kind_79 1 rfl ?_
      refine ok_iald (v := mem 24 k.toNat) F dX7_kind_80 sh_24 (by first | decide | assumption) (by omega) (by omega) rfl ?_
      refine ok_iret F G dX7_kind_81 ?_
      refine ⟨?_, rfl⟩
      rw [if_pos (by omega)]
      subst w
      rfl
    by_cases c_2_3 : w = 3
    · refine ok_tabIn F 82 dX7_kind_11 (by omega) (by omega) (by omega) (off := 71) (by rw [c_2_3]; rfl) (by decide) ?_
      refine ok_aload_n F dX7_kind_82 0 rfl ?_
      refine ok_getr F dX7_kind_83 kF_X7_10 sh_20 rfl ?_
      refine ok_getr F dX7_kind_86 kF_X7_161 sh_21 rfl ?_
      refine ok_iload_n F dX7_kind_89 1 rfl ?_
      refine ok_iald (v := mem 25 k.toNat) F dX7_kind_90 sh_25 (by first | decide | assumption) (by omega) (by omega) rfl ?_
      refine ok_iret F G dX7_kind_91 ?_
      refine ⟨?_, rfl⟩
      rw [if_pos (by omega)]
      subst w
      rfl
    by_cases c_2_4 : w = 4
    · refine ok_tabIn F 92 dX7_kind_11 (by omega) (by omega) (by omega) (off := 81) (by rw [c_2_4]; rfl) (by decide) ?_
      refine ok_aload_n F dX7_kind_92 0 rfl ?_
      refine ok_getr F dX7_kind_93 kF_X7_10 sh_20 rfl ?_
      refine ok_getr F dX7_kind_96 kF_X7_173 sh_21 rfl ?_
      refine ok_iload_n F dX7_kind_99 1 rfl ?_
      refine ok_iald (v := mem 26 k.toNat) F dX7_kind_100 sh_26 (by first | decide | assumption) (by omega) (by omega) rfl ?_
      refine ok_iret F G dX7_kind_101 ?_
      refine ⟨?_, rfl⟩
      rw [if_pos (by omega)]
      subst w
      rfl
    by_cases c_2_5 : w = 5
    · refine ok_tabIn F 102 dX7_kind_11 (by omega) (by omega) (by omega) (off := 91) (by rw [c_2_5]; rfl) (by decide) ?_
      refine ok_aload_n F dX7_kind_102 0 rfl ?_
      refine ok_getr F dX7_kind_103 kF_X7_10 sh_20 rfl ?_
      refine ok_getr F dX7_kind_106 kF_X7_120 sh_21 rfl ?_
      refine ok_iload_n F dX7_kind_109 1 rfl ?_
      refine ok_iald (v := mem 27 k.toNat) F dX7_kind_110 sh_27 (by first | decide | assumption) (by omega) (by omega) rfl ?_
      refine ok_iret F G dX7_kind_111 ?_
      refine ⟨?_, rfl⟩
      rw [if_pos (by omega)]
      subst w
      rfl
    by_cases c_2_6 : w = 6
    · refine ok_tabIn F 112 dX7_kind_11 (by omega) (by omega) (by omega) (off := 101) (by rw [c_2_6]; rfl) (by decide) ?_
      refine ok_aload_n F dX7_kind_112 0 rfl ?_
      refine ok_getr F dX7_kind_113 kF_X7_10 sh_20 rfl ?_
      refine ok_getr F dX7_kind_116 kF_X7_170 sh_21 rfl ?_
      refine ok_iload_n F dX7_kind_119 1 rfl ?_
      refine ok_iald (v := mem 28 k.toNat) F dX7_kind_120 sh_28 (by first | decide | assumption) (by omega) (by omega) rfl ?_
      refine ok_iret F G dX7_kind_121 ?_
      refine ⟨?_, rfl⟩
      rw [if_pos (by omega)]
      subst w
      rfl
    exfalso; omega
  · refine ok_iconst F dX7_kind_8 ?_
    refine ok_iret F G dX7_kind_9 ?_
    exact ⟨by rw [if_neg (by omega)], rfl⟩
theorem dX7_total_0 : decode cX7_total 0 = .ok (.iload_n 1, 1) := by decide +kernel
theorem dX7_total_1 : decode cX7_total 1 = .ok (.tableswitch 110 0 4 #[35, 50, 65, 80, 95], 35) := by decide +kernel
theorem dX7_total_36 : decode cX7_total 36 = .ok (.aload_n 0, 1) := by decide +kernel
theorem dX7_total_37 : decode cX7_total 37 = .ok (.getfield 10, 3) := by decide +kernel
theorem dX7_total_40 : decode cX7_total 40 = .ok (.aload_n 0, 1) := by decide +kernel
theorem dX7_total_41 : decode cX7_total 41 = .ok (.getfield 10, 3) := by decide +kernel
theorem dX7_total_44 : decode cX7_total 44 = .ok (.getfield 133, 3) := by decide +kernel
theorem dX7_total_47 : decode cX7_total 47 = .ok (.invokevirtual 130, 3) := by decide +kernel
theorem dX7_total_50 : decode cX7_total 50 = .ok (.ireturn, 1) := by decide +kernel
theorem dX7_total_51 : decode cX7_total 51 = .ok (.aload_n 0, 1) := by decide +kernel
theorem dX7_total_52 : decode cX7_total 52 = .ok (.getfield 10, 3) := by decide +kernel
theorem dX7_total_55 : decode cX7_total 55 = .ok (.aload_n 0, 1) := by decide +kernel
theorem dX7_total_56 : decode cX7_total 56 = .ok (.getfield 10, 3) := by decide +kernel
theorem dX7_total_59 : decode cX7_total 59 = .ok (.getfield 117, 3) := by decide +kernel
theorem dX7_total_62 : decode cX7_total 62 = .ok (.invokevirtual 130, 3) := by decide +kernel
theorem dX7_total_65 : decode cX7_total 65 = .ok (.ireturn, 1) := by decide +kernel
theorem dX7_total_66 : decode cX7_total 66 = .ok (.aload_n 0, 1) := by decide +kernel
theorem dX7_total_67 : decode cX7_total 67 = .ok (.getfield 10, 3) := by decide +kernel
theorem dX7_total_70 : decode cX7_total 70 = .ok (.aload_n 0, 1) := by decide +kernel
theorem dX7_total_71 : decode cX7_total 71 = .ok (.getfield 10, 3) := by decide +kernel
theorem dX7_total_74 : decode cX7_total 74 = .ok (.getfield 170, 3) := by decide +kernel
theorem dX7_total_77 : decode cX7_total 77 = .ok (.invokevirtual 130, 3) := by decide +kernel
theorem dX7_total_80 : decode cX7_total 80 = .ok (.ireturn, 1) := by decide +kernel
theorem dX7_total_81 : decode cX7_total 81 = .ok (.aload_n 0, 1) := by decide +kernel
theorem dX7_total_82 : decode cX7_total 82 = .ok (.getfield 10, 3) := by decide +kernel
theorem dX7_total_85 : decode cX7_total 85 = .ok (.aload_n 0, 1) := by decide +kernel
theorem dX7_total_86 : decode cX7_total 86 = .ok (.getfield 10, 3) := by decide +kernel
theorem dX7_total_89 : decode cX7_total 89 = .ok (.getfield 120, 3) := by decide +kernel
theorem dX7_total_92 : decode cX7_total 92 = .ok (.invokevirtual 130, 3) := by decide +kernel
theorem dX7_total_95 : decode cX7_total 95 = .ok (.ireturn, 1) := by decide +kernel
theorem dX7_total_96 : decode cX7_total 96 = .ok (.aload_n 0, 1) := by decide +kernel
theorem dX7_total_97 : decode cX7_total 97 = .ok (.getfield 10, 3) := by decide +kernel
theorem dX7_total_100 : decode cX7_total 100 = .ok (.aload_n 0, 1) := by decide +kernel
theorem dX7_total_101 : decode cX7_total 101 = .ok (.getfield 10, 3) := by decide +kernel
theorem dX7_total_104 : decode cX7_total 104 = .ok (.getfield 161, 3) := by decide +kernel
theorem dX7_total_107 : decode cX7_total 107 = .ok (.invokevirtual 130, 3) := by decide +kernel
theorem dX7_total_110 : decode cX7_total 110 = .ok (.ireturn, 1) := by decide +kernel
theorem dX7_total_111 : decode cX7_total 111 = .ok (.iconst (-1), 1) := by decide +kernel
theorem dX7_total_112 : decode cX7_total 112 = .ok (.ireturn, 1) := by decide +kernel
set_option maxHeartbeats 4000000 in
set_option maxRecDepth 100000 in
theorem m_X7_total (l : Launch) (w : Int) (mem : Mem) (hw : i32 w) (hN : 0 ≤ mem 21 0 ∧ mem 21 0 ≤ 8) : Ret shp l yX7_total cX7_total 2 (some .int) 1 [pR 20, pI w] mem (fun rv mv => rv = some (pI (if 0 ≤ w ∧ w ≤ 4 then sumN (fun k => mem (if w = 0 then 23 else if w = 1 then 24 else if w = 2 then 28 else if w = 3 then 27 else 25) k * mem 22 k) (mem 21 0).toNat else -1)) ∧ mem = mv) := by
  refine ret_of (by decide +kernel) (Nat.le_of_ble_eq_true rfl) (fun X hX F G => ?_)
  show Ok shp X 2 0 [(0, pR 20), (1, pI w)] [] mem
  refine ok_iload_n F dX7_total_0 1 rfl ?_
  by_cases c_1o : w < 0 ∨ 4 < w
  · refine ok_tabOut F 111 dX7_total_1 (by omega) c_1o (by decide) ?_
    refine ok_iconst F dX7_total_111 ?_
    refine ok_iret F G dX7_total_112 ?_
    exact ⟨by rw [if_neg (by omega)], rfl⟩
  by_cases c_1_0 : w = 0
  · refine ok_tabIn F 36 dX7_total_1 (by omega) (by omega) (by omega) (off := 35) (by rw [c_1_0]; rfl) (by decide) ?_
    refine ok_aload_n F dX7_total_36 0 rfl ?_
    refine ok_getr F dX7_total_37 kF_X7_10 sh_20 rfl ?_
    refine ok_aload_n F dX7_total_40 0 rfl ?_
    refine ok_getr F dX7_total_41 kF_X7_10 sh_20 rfl ?_
    refine ok_getr F dX7_total_44 kF_X7_133 sh_21 rfl ?_
    refine ok_callv F [pR 23] dX7_total_47 kM_X6_worthOf kI_X6_worthOf kV_X6_worthOf kL_X7_130 (ci := 6) rfl sh_21 rfl (by decide) (Nat.le_of_ble_eq_true rfl) rfl (m_X6_worthOf _ 23 mem (sh_23) (by omega)) ?_
    rintro _ _ ⟨rfl, rfl⟩
    refine ok_iret F G dX7_total_50 ?_
    refine ⟨?_, rfl⟩
    subst w
    rfl
  by_cases c_1_1 : w = 1
  · refine ok_tabIn F 51 dX7_total_1 (by omega) (by omega) (by omega) (off := 50) (by rw [c_1_1]; rfl) (by decide) ?_
    refine ok_aload_n F dX7_total_51 0 rfl ?_
    refine ok_getr F dX7_total_52 kF_X7_10 sh_20 rfl ?_
    refine ok_aload_n F dX7_total_55 0 rfl ?_
    refine ok_getr F dX7_total_56 kF_X7_10 sh_20 rfl ?_
    refine ok_getr F dX7_total_59 kF_X7_117 sh_21 rfl ?_
    refine ok_callv F [pR 24] dX7_total_62 kM_X6_worthOf kI_X6_worthOf kV_X6_worthOf kL_X7_130 (ci := 6) rfl sh_21 rfl (by decide) (Nat.le_of_ble_eq_true rfl) rfl (m_X6_worthOf _ 24 mem (sh_24) (by omega)) ?_
    rintro _ _ ⟨rfl, rfl⟩
    refine ok_iret F G dX7_total_65 ?_
    refine ⟨?_, rfl⟩
    subst w
    rfl
  by_cases c_1_2 : w = 2
  · refine ok_tabIn F 66 dX7_total_1 (by omega) (by omega) (by omega) (off := 65) (by rw [c_1_2]; rfl) (by decide) ?_
    refine ok_aload_n F dX7_total_66 0 rfl ?_
    refine ok_getr F dX7_total_67 kF_X7_10 sh_20 rfl ?_
    refine ok_aload_n F dX7_total_70 0 rfl ?_
    refine ok_getr F dX7_total_71 kF_X7_10 sh_20 rfl ?_
    refine ok_getr F dX7_total_74 kF_X7_170 sh_21 rfl ?_
    refine ok_callv F [pR 28] dX7_total_77 kM_X6_worthOf kI_X6_worthOf kV_X6_worthOf kL_X7_130 (ci := 6) rfl sh_21 rfl (by decide) (Nat.le_of_ble_eq_true rfl) rfl (m_X6_worthOf _ 28 mem (sh_28) (by omega)) ?_
    rintro _ _ ⟨rfl, rfl⟩
    refine ok_iret F G dX7_total_80 ?_
    refine ⟨?_, rfl⟩
    subst w
    rfl
  by_cases c_1_3 : w = 3
  · refine ok_tabIn F 81 dX7_total_1 (by omega) (by omega) (by omega) (off := 80) (by rw [c_1_3]; rfl) (by decide) ?_
    refine ok_aload_n F dX7_total_81 0 rfl ?_
    refine ok_getr F dX7_total_82 kF_X7_10 sh_20 rfl ?_
    refine ok_aload_n F dX7_total_85 0 rfl ?_
    refine ok_getr F dX7_total_86 kF_X7_10 sh_20 rfl ?_
    refine ok_getr F dX7_total_89 kF_X7_120 sh_21 rfl ?_
    refine ok_callv F [pR 27] dX7_total_92 kM_X6_worthOf kI_X6_worthOf kV_X6_worthOf kL_X7_130 (ci := 6) rfl sh_21 rfl (by decide) (Nat.le_of_ble_eq_true rfl) rfl (m_X6_worthOf _ 27 mem (sh_27) (by omega)) ?_
    rintro _ _ ⟨rfl, rfl⟩
    refine ok_iret F G dX7_total_95 ?_
    refine ⟨?_, rfl⟩
    subst w
    rfl
  by_cases c_1_4 : w = 4
  · refine ok_tabIn F 96 dX7_total_1 (by omega) (by omega) (by omega) (off := 95) (by rw [c_1_4]; rfl) (by decide) ?_
    refine ok_aload_n F dX7_total_96 0 rfl ?_
    refine ok_getr F dX7_total_97 kF_X7_10 sh_20 rfl ?_
    refine ok_aload_n F dX7_total_100 0 rfl ?_
    refine ok_getr F dX7_total_101 kF_X7_10 sh_20 rfl ?_
    refine ok_getr F dX7_total_104 kF_X7_161 sh_21 rfl ?_
    refine ok_callv F [pR 25] dX7_total_107 kM_X6_worthOf kI_X6_worthOf kV_X6_worthOf kL_X7_130 (ci := 6) rfl sh_21 rfl (by decide) (Nat.le_of_ble_eq_true rfl) rfl (m_X6_worthOf _ 25 mem (sh_25) (by omega)) ?_
    rintro _ _ ⟨rfl, rfl⟩
    refine ok_iret F G dX7_total_110 ?_
    refine ⟨?_, rfl⟩
    subst w
    rfl
  exfalso; omega
theorem dX7_kindsBeyondLimit_0 : decode cX7_kindsBeyondLimit 0 = .ok (.iconst 0, 1) := by decide +kernel
theorem dX7_kindsBeyondLimit_1 : decode cX7_kindsBeyondLimit 1 = .ok (.istore_n 2, 1) := by decide +kernel
theorem dX7_kindsBeyondLimit_2 : decode cX7_kindsBeyondLimit 2 = .ok (.iconst 0, 1) := by decide +kernel
theorem dX7_kindsBeyondLimit_3 : decode cX7_kindsBeyondLimit 3 = .ok (.istore_n 3, 1) := by decide +kernel
theorem dX7_kindsBeyondLimit_4 : decode cX7_kindsBeyondLimit 4 = .ok (.iload_n 3, 1) := by decide +kernel
theorem dX7_kindsBeyondLimit_5 : decode cX7_kindsBeyondLimit 5 = .ok (.aload_n 0, 1) := by decide +kernel
theorem dX7_kindsBeyondLimit_6 : decode cX7_kindsBeyondLimit 6 = .ok (.getfield 10, 3) := by decide +kernel
theorem dX7_kindsBeyondLimit_9 : decode cX7_kindsBeyondLimit 9 = .ok (.getfield 103, 3) := by decide +kernel
theorem dX7_kindsBeyondLimit_12 : decode cX7_kindsBeyondLimit 12 = .ok (.if_icmp .ge 39, 3) := by decide +kernel
theorem dX7_kindsBeyondLimit_15 : decode cX7_kindsBeyondLimit 15 = .ok (.aload_n 0, 1) := by decide +kernel
theorem dX7_kindsBeyondLimit_16 : decode cX7_kindsBeyondLimit 16 = .ok (.getfield 10, 3) := by decide +kernel
theorem dX7_kindsBeyondLimit_19 : decode cX7_kindsBeyondLimit 19 = .ok (.getfield 133, 3) := by decide +kernel
theorem dX7_kindsBeyondLimit_22 : decode cX7_kindsBeyondLimit 22 = .ok (.iload_n 3, 1) := by decide +kernel
theorem dX7_kindsBeyondLimit_23 : decode cX7_kindsBeyondLimit 23 = .ok (.iaload, 1) := by decide +kernel
theorem dX7_kindsBeyondLimit_24 : decode cX7_kindsBeyondLimit 24 = .ok (.aload_n 0, 1) := by decide +kernel
theorem dX7_kindsBeyondLimit_25 : decode cX7_kindsBeyondLimit 25 = .ok (.getfield 10, 3) := by decide +kernel
theorem dX7_kindsBeyondLimit_28 : decode cX7_kindsBeyondLimit 28 = .ok (.getfield 161, 3) := by decide +kernel
theorem dX7_kindsBeyondLimit_31 : decode cX7_kindsBeyondLimit 31 = .ok (.iload_n 3, 1) := by decide +kernel
theorem dX7_kindsBeyondLimit_32 : decode cX7_kindsBeyondLimit 32 = .ok (.iaload, 1) := by decide +kernel
theorem dX7_kindsBeyondLimit_33 : decode cX7_kindsBeyondLimit 33 = .ok (.isub, 1) := by decide +kernel
theorem dX7_kindsBeyondLimit_34 : decode cX7_kindsBeyondLimit 34 = .ok (.iload_n 1, 1) := by decide +kernel
theorem dX7_kindsBeyondLimit_35 : decode cX7_kindsBeyondLimit 35 = .ok (.imul, 1) := by decide +kernel
theorem dX7_kindsBeyondLimit_36 : decode cX7_kindsBeyondLimit 36 = .ok (.ifCond .le 9, 3) := by decide +kernel
theorem dX7_kindsBeyondLimit_39 : decode cX7_kindsBeyondLimit 39 = .ok (.iload_n 2, 1) := by decide +kernel
theorem dX7_kindsBeyondLimit_40 : decode cX7_kindsBeyondLimit 40 = .ok (.iconst 1, 1) := by decide +kernel
theorem dX7_kindsBeyondLimit_41 : decode cX7_kindsBeyondLimit 41 = .ok (.iload_n 3, 1) := by decide +kernel
theorem dX7_kindsBeyondLimit_42 : decode cX7_kindsBeyondLimit 42 = .ok (.ishl, 1) := by decide +kernel
theorem dX7_kindsBeyondLimit_43 : decode cX7_kindsBeyondLimit 43 = .ok (.ior, 1) := by decide +kernel
theorem dX7_kindsBeyondLimit_44 : decode cX7_kindsBeyondLimit 44 = .ok (.istore_n 2, 1) := by decide +kernel
theorem dX7_kindsBeyondLimit_45 : decode cX7_kindsBeyondLimit 45 = .ok (.iinc 3 1, 3) := by decide +kernel
theorem dX7_kindsBeyondLimit_48 : decode cX7_kindsBeyondLimit 48 = .ok (.goto (-44), 3) := by decide +kernel
theorem dX7_kindsBeyondLimit_51 : decode cX7_kindsBeyondLimit 51 = .ok (.iload_n 2, 1) := by decide +kernel
theorem dX7_kindsBeyondLimit_52 : decode cX7_kindsBeyondLimit 52 = .ok (.ireturn, 1) := by decide +kernel
set_option maxHeartbeats 4000000 in
set_option maxRecDepth 100000 in
theorem m_X7_kindsBeyondLimit (l : Launch) (s : Int) (mem : Mem) (hs : s = 1 ∨ s = -1) (hN : 0 ≤ mem 21 0 ∧ mem 21 0 ≤ 8) (hTl : ∀ k : Nat, k < 8 → 0 ≤ mem 23 k ∧ mem 23 k ≤ 99) (hLm : ∀ k : Nat, k < 8 → 0 ≤ mem 25 k ∧ mem 25 k ≤ 99) : Ret shp l yX7_kindsBeyondLimit cX7_kindsBeyondLimit 4 (some .int) 0 [pR 20, pI s] mem (fun rv mv => rv = some (pI (bitsN (fun k => decide (0 < (mem 23 k - mem 25 k) * s)) (mem 21 0).toNat)) ∧ mem = mv) := by
  refine ret_of (by decide +kernel) (Nat.le_of_ble_eq_true rfl) (fun X hX F G => ?_)
  show Ok shp X 4 0 [(0, pR 20), (1, pI s)] [] mem
  refine ok_iconst F dX7_kindsBeyondLimit_0 ?_
  refine ok_istore_n (lv' := [(2, pI 0), (0, pR 20), (1, pI s)]) F dX7_kindsBeyondLimit_1 (by decide) rfl ?_
  refine ok_iconst F dX7_kindsBeyondLimit_2 ?_
  refine ok_istore_n (lv' := [(3, pI 0), (2, pI 0), (0, pR 20), (1, pI s)]) F dX7_kindsBeyondLimit_3 (by decide) rfl ?_
  have hL_4 : ∀ (n_4 : Nat) (n2 : Int) (k : Int), (0 ≤ k ∧ k ≤ mem 21 0 ∧ n2 = bitsN (fun k => decide (0 < (mem 23 k - mem 25 k) * s)) k.toNat) → (mem 21 0 - k).toNat = n_4 → Ok shp X 4 4 [(0, pR 20), (1, pI s), (2, pI n2), (3, pI k)] [] mem := by
    intro n_4
    induction n_4 using Nat.strongRecOn with
    | _ n_4 ih_4 =>
      intro n2 k hI_4 hn_4
      refine ok_iload_n F dX7_kindsBeyondLimit_4 3 rfl ?_
      refine ok_aload_n F dX7_kindsBeyondLimit_5 0 rfl ?_
      refine ok_getr F dX7_kindsBeyondLimit_6 kF_X7_10 sh_20 rfl ?_
      refine ok_getf (v := mem 21 0) F dX7_kindsBeyondLimit_9 kF_X7_103 sh_21 rfl rfl ?_
      refine ok_icmp_ge F 51 dX7_kindsBeyondLimit_12 (by decide) (by omega) (by omega) (fun c_1 => ?_) (fun c_1 => ?_)
      · refine ok_iload_n F dX7_kindsBeyondLimit_51 2 rfl ?_
        refine ok_iret F G dX7_kindsBeyondLimit_52 ?_
        exact ⟨by rw [hI_4.2.2, show k = mem 21 0 by omega], rfl⟩
      · have q1 := hTl k.toNat (by omega)
        have q2 := hLm k.toNat (by omega)
        refine ok_aload_n F dX7_kindsBeyondLimit_15 0 rfl ?_
        refine ok_getr F dX7_kindsBeyondLimit_16 kF_X7_10 sh_20 rfl ?_
        refine ok_getr F dX7_kindsBeyondLimit_19 kF_X7_133 sh_21 rfl ?_
        refine ok_iload_n F dX7_kindsBeyondLimit_22 3 rfl ?_
        refine ok_iald (v := mem 23 k.toNat) F dX7_kindsBeyondLimit_23 sh_23 (by first | decide | assumption) (by omega) (by omega) rfl ?_
        refine ok_aload_n F dX7_kindsBeyondLimit_24 0 rfl ?_
        refine ok_getr F dX7_kindsBeyondLimit_25 kF_X7_10 sh_20 rfl ?_
        refine ok_getr F dX7_kindsBeyondLimit_28 kF_X7_161 sh_21 rfl ?_
        refine ok_iload_n F dX7_kindsBeyondLimit_31 3 rfl ?_
        refine ok_iald (v := mem 25 k.toNat) F dX7_kindsBeyondLimit_32 sh_25 (by first | decide | assumption) (by omega) (by omega) rfl ?_
        refine ok_isub F dX7_kindsBeyondLimit_33 ?_
        refine ok_iload_n F dX7_kindsBeyondLimit_34 1 rfl ?_
        refine ok_imul F dX7_kindsBeyondLimit_35 ?_
        have q3 : (mem 23 k.toNat - mem 25 k.toNat) * s = mem 23 k.toNat - mem 25 k.toNat ∨ (mem 23 k.toNat - mem 25 k.toNat) * s = -(mem 23 k.toNat - mem 25 k.toNat) := by rcases hs with rfl | rfl <;> omega
        refine ok_if_le F 45 dX7_kindsBeyondLimit_36 (by decide) (by omega) (fun c_2 => ?_) (fun c_2 => ?_)
        · refine ok_iinc (lv' := [(3, pI (k + 1)), (0, pR 20), (1, pI s), (2, pI n2)]) F dX7_kindsBeyondLimit_45 3 rfl (by decide) rfl ?_
          refine ok_goto F 4 dX7_kindsBeyondLimit_48 (by decide) ?_
          refine ok_lvp [1, 2, 3, 0] (lv' := [(0, pR 20), (1, pI s), (2, pI n2), (3, pI (k + 1))]) rfl ?_
          refine ih_4 _ ?_ n2 (k + 1) ?_ rfl
          · omega
          · refine ⟨by omega, by omega, ?_⟩
            rw [bitsN_s _ hI_4.1, hI_4.2.2]
            first | (rw [if_pos (decide_eq_true (by omega))]; done) | (rw [if_neg (by rw [decide_eq_true_eq]; omega)]; exact (bitsN_ior0 _ _).symm)
        · refine ok_iload_n F dX7_kindsBeyondLimit_39 2 rfl ?_
          refine ok_iconst F dX7_kindsBeyondLimit_40 ?_
          refine ok_iload_n F dX7_kindsBeyondLimit_41 3 rfl ?_
          refine ok_ishl F dX7_kindsBeyondLimit_42 ?_
          refine ok_ior F dX7_kindsBeyondLimit_43 ?_
          refine ok_istore_n (lv' := [(2, pI (ior n2 (ishl 1 k))), (0, pR 20), (1, pI s), (3, pI k)]) F dX7_kindsBeyondLimit_44 (by decide) rfl ?_
          refine ok_iinc (lv' := [(3, pI (k + 1)), (2, pI (ior n2 (ishl 1 k))), (0, pR 20), (1, pI s)]) F dX7_kindsBeyondLimit_45 3 rfl (by decide) rfl ?_
          refine ok_goto F 4 dX7_kindsBeyondLimit_48 (by decide) ?_
          refine ok_lvp [2, 3, 1, 0] (lv' := [(0, pR 20), (1, pI s), (2, pI (ior n2 (ishl 1 k))), (3, pI (k + 1))]) rfl ?_
          refine ih_4 _ ?_ (ior n2 (ishl 1 k)) (k + 1) ?_ rfl
          · omega
          · refine ⟨by omega, by omega, ?_⟩
            rw [bitsN_s _ hI_4.1, hI_4.2.2]
            first | (rw [if_pos (decide_eq_true (by omega))]; done) | (rw [if_neg (by rw [decide_eq_true_eq]; omega)]; exact (bitsN_ior0 _ _).symm)
  refine ok_lvp [2, 3, 1, 0] (lv' := [(0, pR 20), (1, pI s), (2, pI 0), (3, pI 0)]) rfl ?_
  refine hL_4 _ 0 0 ?_ rfl
  exact ⟨by omega, by omega, rfl⟩
theorem dX7_count_0 : decode cX7_count 0 = .ok (.iload_n 1, 1) := by decide +kernel
theorem dX7_count_1 : decode cX7_count 1 = .ok (.tableswitch 136 0 9 #[55, 63, 71, 79, 94, 109, 114, 119, 124, 130], 55) := by decide +kernel
theorem dX7_count_56 : decode cX7_count 56 = .ok (.aload_n 0, 1) := by decide +kernel
theorem dX7_count_57 : decode cX7_count 57 = .ok (.getfield 10, 3) := by decide +kernel
theorem dX7_count_60 : decode cX7_count 60 = .ok (.getfield 103, 3) := by decide +kernel
theorem dX7_count_63 : decode cX7_count 63 = .ok (.ireturn, 1) := by decide +kernel
theorem dX7_count_64 : decode cX7_count 64 = .ok (.aload_n 0, 1) := by decide +kernel
theorem dX7_count_65 : decode cX7_count 65 = .ok (.getfield 10, 3) := by decide +kernel
theorem dX7_count_68 : decode cX7_count 68 = .ok (.getfield 176, 3) := by decide +kernel
theorem dX7_count_71 : decode cX7_count 71 = .ok (.ireturn, 1) := by decide +kernel
theorem dX7_count_72 : decode cX7_count 72 = .ok (.aload_n 0, 1) := by decide +kernel
theorem dX7_count_73 : decode cX7_count 73 = .ok (.getfield 10, 3) := by decide +kernel
theorem dX7_count_76 : decode cX7_count 76 = .ok (.invokevirtual 179, 3) := by decide +kernel
theorem dX7_count_79 : decode cX7_count 79 = .ok (.ireturn, 1) := by decide +kernel
theorem dX7_count_80 : decode cX7_count 80 = .ok (.aload_n 0, 1) := by decide +kernel
theorem dX7_count_81 : decode cX7_count 81 = .ok (.getfield 10, 3) := by decide +kernel
theorem dX7_count_84 : decode cX7_count 84 = .ok (.aload_n 0, 1) := by decide +kernel
theorem dX7_count_85 : decode cX7_count 85 = .ok (.getfield 10, 3) := by decide +kernel
theorem dX7_count_88 : decode cX7_count 88 = .ok (.getfield 133, 3) := by decide +kernel
theorem dX7_count_91 : decode cX7_count 91 = .ok (.invokevirtual 123, 3) := by decide +kernel
theorem dX7_count_94 : decode cX7_count 94 = .ok (.ireturn, 1) := by decide +kernel
theorem dX7_count_95 : decode cX7_count 95 = .ok (.aload_n 0, 1) := by decide +kernel
theorem dX7_count_96 : decode cX7_count 96 = .ok (.getfield 10, 3) := by decide +kernel
theorem dX7_count_99 : decode cX7_count 99 = .ok (.aload_n 0, 1) := by decide +kernel
theorem dX7_count_100 : decode cX7_count 100 = .ok (.getfield 10, 3) := by decide +kernel
theorem dX7_count_103 : decode cX7_count 103 = .ok (.getfield 120, 3) := by decide +kernel
theorem dX7_count_106 : decode cX7_count 106 = .ok (.invokevirtual 123, 3) := by decide +kernel
theorem dX7_count_109 : decode cX7_count 109 = .ok (.ireturn, 1) := by decide +kernel
theorem dX7_count_110 : decode cX7_count 110 = .ok (.aload_n 0, 1) := by decide +kernel
theorem dX7_count_111 : decode cX7_count 111 = .ok (.getfield 100, 3) := by decide +kernel
theorem dX7_count_114 : decode cX7_count 114 = .ok (.ireturn, 1) := by decide +kernel
theorem dX7_count_115 : decode cX7_count 115 = .ok (.aload_n 0, 1) := by decide +kernel
theorem dX7_count_116 : decode cX7_count 116 = .ok (.getfield 81, 3) := by decide +kernel
theorem dX7_count_119 : decode cX7_count 119 = .ok (.ireturn, 1) := by decide +kernel
theorem dX7_count_120 : decode cX7_count 120 = .ok (.aload_n 0, 1) := by decide +kernel
theorem dX7_count_121 : decode cX7_count 121 = .ok (.getfield 209, 3) := by decide +kernel
theorem dX7_count_124 : decode cX7_count 124 = .ok (.ireturn, 1) := by decide +kernel
theorem dX7_count_125 : decode cX7_count 125 = .ok (.aload_n 0, 1) := by decide +kernel
theorem dX7_count_126 : decode cX7_count 126 = .ok (.iconst 1, 1) := by decide +kernel
theorem dX7_count_127 : decode cX7_count 127 = .ok (.invokevirtual 212, 3) := by decide +kernel
theorem dX7_count_130 : decode cX7_count 130 = .ok (.ireturn, 1) := by decide +kernel
theorem dX7_count_131 : decode cX7_count 131 = .ok (.aload_n 0, 1) := by decide +kernel
theorem dX7_count_132 : decode cX7_count 132 = .ok (.iconst (-1), 1) := by decide +kernel
theorem dX7_count_133 : decode cX7_count 133 = .ok (.invokevirtual 212, 3) := by decide +kernel
theorem dX7_count_136 : decode cX7_count 136 = .ok (.ireturn, 1) := by decide +kernel
theorem dX7_count_137 : decode cX7_count 137 = .ok (.iconst (-1), 1) := by decide +kernel
theorem dX7_count_138 : decode cX7_count 138 = .ok (.ireturn, 1) := by decide +kernel
set_option maxHeartbeats 4000000 in
set_option maxRecDepth 100000 in
theorem m_X7_count (l : Launch) (w : Int) (mem : Mem) (hw : i32 w) (hN : 0 ≤ mem 21 0 ∧ mem 21 0 ≤ 8) (hN1 : 0 ≤ mem 21 1 ∧ mem 21 1 ≤ 5) (hTl : ∀ k : Nat, k < 8 → 0 ≤ mem 23 k ∧ mem 23 k ≤ 99) (hLm : ∀ k : Nat, k < 8 → 0 ≤ mem 25 k ∧ mem 25 k ≤ 99) : Ret shp l yX7_count cX7_count 2 (some .int) 2 [pR 20, pI w] mem (fun rv mv => rv = some (pI (if w = 0 then mem 21 0 else if w = 1 then mem 21 1 else if w = 2 then fstD (mem 29) (mem 21 1) else if w = 3 then sumN (mem 23) (mem 21 0).toNat else if w = 4 then sumN (mem 27) (mem 21 0).toNat else if w = 5 then mem 20 6 else if w = 6 then mem 20 3 else if w = 7 then mem 20 8 else if w = 8 then bitsN (fun k => decide (0 < (mem 23 k - mem 25 k) * 1)) (mem 21 0).toNat else if w = 9 then bitsN (fun k => decide (0 < (mem 23 k - mem 25 k) * (-1))) (mem 21 0).toNat else -1)) ∧ mem = mv) := by
  refine ret_of (by decide +kernel) (Nat.le_of_ble_eq_true rfl) (fun X hX F G => ?_)
  show Ok shp X 2 0 [(0, pR 20), (1, pI w)] [] mem
  refine ok_iload_n F dX7_count_0 1 rfl ?_
  by_cases c_1o : w < 0 ∨ 9 < w
  · refine ok_tabOut F 137 dX7_count_1 (by omega) c_1o (by decide) ?_
    refine ok_iconst F dX7_count_137 ?_
    refine ok_iret F G dX7_count_138 ?_
    refine ⟨?_, rfl⟩
    rw [if_neg (by omega), if_neg (by omega), if_neg (by omega), if_neg (by omega), if_neg (by omega), if_neg (by omega), if_neg (by omega), if_neg (by omega), if_neg (by omega), if_neg (by omega)]
  by_cases c_1_0 : w = 0
  · refine ok_tabIn F 56 dX7_count_1 (by omega) (by omega) (by omega) (off := 55) (by rw [c_1_0]; rfl) (by decide) ?_
    refine ok_aload_n F dX7_count_56 0 rfl ?_
    refine ok_getr F dX7_count_57 kF_X7_10 sh_20 rfl ?_
    refine ok_getf (v := mem 21 0) F dX7_count_60 kF_X7_103 sh_21 rfl rfl ?_
    refine ok_iret F G dX7_count_63 ?_
    refine ⟨?_, rfl⟩
    subst w
    rfl
  by_cases c_1_1 : w = 1
  · refine ok_tabIn F 64 dX7_count_1 (by omega) (by omega) (by omega) (off := 63) (by rw [c_1_1]; rfl) (by decide) ?_
    refine ok_aload_n F dX7_count_64 0 rfl ?_
    refine ok_getr F dX7_count_65 kF_X7_10 sh_20 rfl ?_
    refine ok_getf (v := mem 21 1) F dX7_count_68 kF_X7_176 sh_21 rfl rfl ?_
    refine ok_iret F G dX7_count_71 ?_
    refine ⟨?_, rfl⟩
    subst w
    rfl
  by_cases c_1_2 : w = 2
  · refine ok_tabIn F 72 dX7_count_1 (by omega) (by omega) (by omega) (off := 71) (by rw [c_1_2]; rfl) (by decide) ?_
    refine ok_aload_n F dX7_count_72 0 rfl ?_
    refine ok_getr F dX7_count_73 kF_X7_10 sh_20 rfl ?_
    refine ok_callv F [] dX7_count_76 kM_X6_allSales kI_X6_allSales kV_X6_allSales kL_X7_179 (ci := 6) rfl sh_21 rfl (by decide) (Nat.le_of_ble_eq_true rfl) rfl (m_X6_allSales_21 _ mem (by omega)) ?_
    rintro _ _ ⟨rfl, rfl⟩
    refine ok_iret F G dX7_count_79 ?_
    refine ⟨?_, rfl⟩
    subst w
    rfl
  by_cases c_1_3 : w = 3
  · refine ok_tabIn F 80 dX7_count_1 (by omega) (by omega) (by omega) (off := 79) (by rw [c_1_3]; rfl) (by decide) ?_
    refine ok_aload_n F dX7_count_80 0 rfl ?_
    refine ok_getr F dX7_count_81 kF_X7_10 sh_20 rfl ?_
    refine ok_aload_n F dX7_count_84 0 rfl ?_
    refine ok_getr F dX7_count_85 kF_X7_10 sh_20 rfl ?_
    refine ok_getr F dX7_count_88 kF_X7_133 sh_21 rfl ?_
    refine ok_callv F [pR 23] dX7_count_91 kM_X6_piecesOf kI_X6_piecesOf kV_X6_piecesOf kL_X7_123 (ci := 6) rfl sh_21 rfl (by decide) (Nat.le_of_ble_eq_true rfl) rfl (m_X6_piecesOf _ 23 mem (sh_23) (by omega)) ?_
    rintro _ _ ⟨rfl, rfl⟩
    refine ok_iret F G dX7_count_94 ?_
    refine ⟨?_, rfl⟩
    subst w
    rfl
  by_cases c_1_4 : w = 4
  · refine ok_tabIn F 95 dX7_count_1 (by omega) (by omega) (by omega) (off := 94) (by rw [c_1_4]; rfl) (by decide) ?_
    refine ok_aload_n F dX7_count_95 0 rfl ?_
    refine ok_getr F dX7_count_96 kF_X7_10 sh_20 rfl ?_
    refine ok_aload_n F dX7_count_99 0 rfl ?_
    refine ok_getr F dX7_count_100 kF_X7_10 sh_20 rfl ?_
    refine ok_getr F dX7_count_103 kF_X7_120 sh_21 rfl ?_
    refine ok_callv F [pR 27] dX7_count_106 kM_X6_piecesOf kI_X6_piecesOf kV_X6_piecesOf kL_X7_123 (ci := 6) rfl sh_21 rfl (by decide) (Nat.le_of_ble_eq_true rfl) rfl (m_X6_piecesOf _ 27 mem (sh_27) (by omega)) ?_
    rintro _ _ ⟨rfl, rfl⟩
    refine ok_iret F G dX7_count_109 ?_
    refine ⟨?_, rfl⟩
    subst w
    rfl
  by_cases c_1_5 : w = 5
  · refine ok_tabIn F 110 dX7_count_1 (by omega) (by omega) (by omega) (off := 109) (by rw [c_1_5]; rfl) (by decide) ?_
    refine ok_aload_n F dX7_count_110 0 rfl ?_
    refine ok_getf (v := mem 20 6) F dX7_count_111 kF_X7_100 sh_20 rfl rfl ?_
    refine ok_iret F G dX7_count_114 ?_
    refine ⟨?_, rfl⟩
    subst w
    rfl
  by_cases c_1_6 : w = 6
  · refine ok_tabIn F 115 dX7_count_1 (by omega) (by omega) (by omega) (off := 114) (by rw [c_1_6]; rfl) (by decide) ?_
    refine ok_aload_n F dX7_count_115 0 rfl ?_
    refine ok_getf (v := mem 20 3) F dX7_count_116 kF_X7_81 sh_20 rfl rfl ?_
    refine ok_iret F G dX7_count_119 ?_
    refine ⟨?_, rfl⟩
    subst w
    rfl
  by_cases c_1_7 : w = 7
  · refine ok_tabIn F 120 dX7_count_1 (by omega) (by omega) (by omega) (off := 119) (by rw [c_1_7]; rfl) (by decide) ?_
    refine ok_aload_n F dX7_count_120 0 rfl ?_
    refine ok_getf (v := mem 20 8) F dX7_count_121 kF_X7_209 sh_20 rfl rfl ?_
    refine ok_iret F G dX7_count_124 ?_
    refine ⟨?_, rfl⟩
    subst w
    rfl
  by_cases c_1_8 : w = 8
  · refine ok_tabIn F 125 dX7_count_1 (by omega) (by omega) (by omega) (off := 124) (by rw [c_1_8]; rfl) (by decide) ?_
    refine ok_aload_n F dX7_count_125 0 rfl ?_
    refine ok_iconst F dX7_count_126 ?_
    refine ok_callv F [pI 1] dX7_count_127 kM_X7_kindsBeyondLimit kI_X7_kindsBeyondLimit kV_X7_kindsBeyondLimit kL_X7_212 (ci := 7) rfl sh_20 rfl (by decide) (Nat.le_of_ble_eq_true rfl) rfl (m_X7_kindsBeyondLimit _ 1 mem (by omega) (by omega) (by omega) (by omega)) ?_
    rintro _ _ ⟨rfl, rfl⟩
    refine ok_iret F G dX7_count_130 ?_
    refine ⟨?_, rfl⟩
    subst w
    rfl
  by_cases c_1_9 : w = 9
  · refine ok_tabIn F 131 dX7_count_1 (by omega) (by omega) (by omega) (off := 130) (by rw [c_1_9]; rfl) (by decide) ?_
    refine ok_aload_n F dX7_count_131 0 rfl ?_
    refine ok_iconst F dX7_count_132 ?_
    refine ok_callv F [pI (-1)] dX7_count_133 kM_X7_kindsBeyondLimit kI_X7_kindsBeyondLimit kV_X7_kindsBeyondLimit kL_X7_212 (ci := 7) rfl sh_20 rfl (by decide) (Nat.le_of_ble_eq_true rfl) rfl (m_X7_kindsBeyondLimit _ (-1) mem (by omega) (by omega) (by omega) (by omega)) ?_
    rintro _ _ ⟨rfl, rfl⟩
    refine ok_iret F G dX7_count_136 ?_
    refine ⟨?_, rfl⟩
    subst w
    rfl
  exfalso; omega
theorem dX7_sale_0 : decode cX7_sale 0 = .ok (.aload_n 0, 1) := by decide +kernel
theorem dX7_sale_1 : decode cX7_sale 1 = .ok (.iload_n 1, 1) := by decide +kernel
theorem dX7_sale_2 : decode cX7_sale 2 = .ok (.invokevirtual 146, 3) := by decide +kernel
theorem dX7_sale_5 : decode cX7_sale 5 = .ok (.ifCond .eq 19, 3) := by decide +kernel
theorem dX7_sale_8 : decode cX7_sale 8 = .ok (.iload_n 2, 1) := by decide +kernel
theorem dX7_sale_9 : decode cX7_sale 9 = .ok (.ifCond .lt 15, 3) := by decide +kernel
theorem dX7_sale_12 : decode cX7_sale 12 = .ok (.iload_n 2, 1) := by decide +kernel
theorem dX7_sale_13 : decode cX7_sale 13 = .ok (.aload_n 0, 1) := by decide +kernel
theorem dX7_sale_14 : decode cX7_sale 14 = .ok (.getfield 10, 3) := by decide +kernel
theorem dX7_sale_17 : decode cX7_sale 17 = .ok (.iload_n 1, 1) := by decide +kernel
theorem dX7_sale_18 : decode cX7_sale 18 = .ok (.invokevirtual 215, 3) := by decide +kernel
theorem dX7_sale_21 : decode cX7_sale 21 = .ok (.if_icmp .lt 5, 3) := by decide +kernel
theorem dX7_sale_24 : decode cX7_sale 24 = .ok (.iconst (-1), 1) := by decide +kernel
theorem dX7_sale_25 : decode cX7_sale 25 = .ok (.ireturn, 1) := by decide +kernel
theorem dX7_sale_26 : decode cX7_sale 26 = .ok (.aload_n 0, 1) := by decide +kernel
theorem dX7_sale_27 : decode cX7_sale 27 = .ok (.getfield 10, 3) := by decide +kernel
theorem dX7_sale_30 : decode cX7_sale 30 = .ok (.iload_n 1, 1) := by decide +kernel
theorem dX7_sale_31 : decode cX7_sale 31 = .ok (.invokevirtual 218, 3) := by decide +kernel
theorem dX7_sale_34 : decode cX7_sale 34 = .ok (.iload_n 2, 1) := by decide +kernel
theorem dX7_sale_35 : decode cX7_sale 35 = .ok (.iadd, 1) := by decide +kernel
theorem dX7_sale_36 : decode cX7_sale 36 = .ok (.istore 4, 2) := by decide +kernel
theorem dX7_sale_38 : decode cX7_sale 38 = .ok (.iload_n 3, 1) := by decide +kernel
theorem dX7_sale_39 : decode cX7_sale 39 = .ok (.bipush 10, 2) := by decide +kernel
theorem dX7_sale_41 : decode cX7_sale 41 = .ok (.if_icmp .lt 28, 3) := by decide +kernel
theorem dX7_sale_44 : decode cX7_sale 44 = .ok (.aload_n 0, 1) := by decide +kernel
theorem dX7_sale_45 : decode cX7_sale 45 = .ok (.iload_n 3, 1) := by decide +kernel
theorem dX7_sale_46 : decode cX7_sale 46 = .ok (.bipush 10, 2) := by decide +kernel
theorem dX7_sale_48 : decode cX7_sale 48 = .ok (.isub, 1) := by decide +kernel
theorem dX7_sale_49 : decode cX7_sale 49 = .ok (.invokevirtual 106, 3) := by decide +kernel
theorem dX7_sale_52 : decode cX7_sale 52 = .ok (.ifCond .eq 17, 3) := by decide +kernel
theorem dX7_sale_55 : decode cX7_sale 55 = .ok (.aload_n 0, 1) := by decide +kernel
theorem dX7_sale_56 : decode cX7_sale 56 = .ok (.getfield 10, 3) := by decide +kernel
theorem dX7_sale_59 : decode cX7_sale 59 = .ok (.iload 4, 2) := by decide +kernel
theorem dX7_sale_61 : decode cX7_sale 61 = .ok (.iload_n 3, 1) := by decide +kernel
theorem dX7_sale_62 : decode cX7_sale 62 = .ok (.bipush 10, 2) := by decide +kernel
theorem dX7_sale_64 : decode cX7_sale 64 = .ok (.isub, 1) := by decide +kernel
theorem dX7_sale_65 : decode cX7_sale 65 = .ok (.invokevirtual 221, 3) := by decide +kernel
theorem dX7_sale_68 : decode cX7_sale 68 = .ok (.ireturn, 1) := by decide +kernel
theorem dX7_sale_69 : decode cX7_sale 69 = .ok (.iload_n 3, 1) := by decide +kernel
theorem dX7_sale_70 : decode cX7_sale 70 = .ok (.tableswitch 56 0 2 #[26, 36, 46], 26) := by decide +kernel
theorem dX7_sale_96 : decode cX7_sale 96 = .ok (.aload_n 0, 1) := by decide +kernel
theorem dX7_sale_97 : decode cX7_sale 97 = .ok (.getfield 10, 3) := by decide +kernel
theorem dX7_sale_100 : decode cX7_sale 100 = .ok (.iload 4, 2) := by decide +kernel
theorem dX7_sale_102 : decode cX7_sale 102 = .ok (.invokevirtual 224, 3) := by decide +kernel
theorem dX7_sale_105 : decode cX7_sale 105 = .ok (.ireturn, 1) := by decide +kernel
theorem dX7_sale_106 : decode cX7_sale 106 = .ok (.aload_n 0, 1) := by decide +kernel
theorem dX7_sale_107 : decode cX7_sale 107 = .ok (.getfield 10, 3) := by decide +kernel
theorem dX7_sale_110 : decode cX7_sale 110 = .ok (.iload 4, 2) := by decide +kernel
theorem dX7_sale_112 : decode cX7_sale 112 = .ok (.invokevirtual 227, 3) := by decide +kernel
theorem dX7_sale_115 : decode cX7_sale 115 = .ok (.ireturn, 1) := by decide +kernel
theorem dX7_sale_116 : decode cX7_sale 116 = .ok (.aload_n 0, 1) := by decide +kernel
theorem dX7_sale_117 : decode cX7_sale 117 = .ok (.getfield 10, 3) := by decide +kernel
theorem dX7_sale_120 : decode cX7_sale 120 = .ok (.iload 4, 2) := by decide +kernel
theorem dX7_sale_122 : decode cX7_sale 122 = .ok (.invokevirtual 230, 3) := by decide +kernel
theorem dX7_sale_125 : decode cX7_sale 125 = .ok (.ireturn, 1) := by decide +kernel
theorem dX7_sale_126 : decode cX7_sale 126 = .ok (.iconst (-1), 1) := by decide +kernel
theorem dX7_sale_127 : decode cX7_sale 127 = .ok (.ireturn, 1) := by decide +kernel
set_option maxHeartbeats 4000000 in
set_option maxRecDepth 100000 in
theorem m_X7_sale (l : Launch) (d : Int) (k : Int) (w : Int) (mem : Mem) (hd : i32 d) (hk : i32 k) (hw : i32 w) (hN : 0 ≤ mem 21 0 ∧ mem 21 0 ≤ 8) (hN1 : 0 ≤ mem 21 1 ∧ mem 21 1 ≤ 5) (hF : ∀ d : Int, 0 ≤ d ∧ d < mem 21 1 → 0 ≤ fstD (mem 29) d ∧ 0 ≤ nsaD (mem 29) (mem 21 1) d ∧ fstD (mem 29) d + nsaD (mem 29) (mem 21 1) d ≤ 40) : Ret shp l yX7_sale cX7_sale 5 (some .int) 2 [pR 20, pI d, pI k, pI w] mem (fun rv mv => rv = some (pI (if (0 ≤ d ∧ d < mem 21 1) ∧ 0 ≤ k ∧ k < nsaD (mem 29) (mem 21 1) d then (if 10 ≤ w ∧ w - 10 < mem 21 0 then mem 31 ((fstD (mem 29) d + k) * 8 + (w - 10)).toNat else if w = 0 then mem 30 (fstD (mem 29) d + k).toNat else if w = 1 then sumN (fun i => mem 31 ((fstD (mem 29) d + k).toNat * 8 + i) * mem 22 i) (mem 21 0).toNat else if w = 2 then sumN (fun i => mem 31 ((fstD (mem 29) d + k).toNat * 8 + i)) (mem 21 0).toNat else -1) else -1)) ∧ mem = mv) := by
  refine ret_of (by decide +kernel) (Nat.le_of_ble_eq_true rfl) (fun X hX F G => ?_)
  show Ok shp X 5 0 [(0, pR 20), (1, pI d), (2, pI k), (3, pI w)] [] mem
  refine ok_aload_n F dX7_sale_0 0 rfl ?_
  refine ok_iload_n F dX7_sale_1 1 rfl ?_
  refine ok_callv F [pI d] dX7_sale_2 kM_X7_hasDay kI_X7_hasDay kV_X7_hasDay kL_X7_146 (ci := 7) rfl sh_20 rfl (by decide) (Nat.le_of_ble_eq_true rfl) rfl (m_X7_hasDay _ d mem (by omega) (by omega)) ?_
  rintro _ _ ⟨rfl, rfl⟩
  refine ok_if_eq F 24 dX7_sale_5 (by decide) (by omega) (fun c_1 => ?_) (fun c_1 => ?_)
  · refine ok_iconst F dX7_sale_24 ?_
    refine ok_iret F G dX7_sale_25 ?_
    exact ⟨by rw [if_neg (by omega)], rfl⟩
  · have qf := hF d (by omega)
    refine ok_iload_n F dX7_sale_8 2 rfl ?_
    refine ok_if_lt F 24 dX7_sale_9 (by decide) (by omega) (fun c_2 => ?_) (fun c_2 => ?_)
    · refine ok_iconst F dX7_sale_24 ?_
      refine ok_iret F G dX7_sale_25 ?_
      exact ⟨by rw [if_neg (by omega)], rfl⟩
    · refine ok_iload_n F dX7_sale_12 2 rfl ?_
      refine ok_aload_n F dX7_sale_13 0 rfl ?_
      refine ok_getr F dX7_sale_14 kF_X7_10 sh_20 rfl ?_
      refine ok_iload_n F dX7_sale_17 1 rfl ?_
      refine ok_callv F [pI d] dX7_sale_18 kM_X6_salesOf kI_X6_salesOf kV_X6_salesOf kL_X7_215 (ci := 6) rfl sh_21 rfl (by decide) (Nat.le_of_ble_eq_true rfl) rfl (m_X6_salesOf_21 _ d mem (by omega) (by omega)) ?_
      rintro _ _ ⟨rfl, rfl⟩
      refine ok_icmp_lt F 26 dX7_sale_21 (by decide) (by omega) (by omega) (fun c_3 => ?_) (fun c_3 => ?_)
      · refine ok_aload_n F dX7_sale_26 0 rfl ?_
        refine ok_getr F dX7_sale_27 kF_X7_10 sh_20 rfl ?_
        refine ok_iload_n F dX7_sale_30 1 rfl ?_
        refine ok_callv F [pI d] dX7_sale_31 kM_X6_firstSale kI_X6_firstSale kV_X6_firstSale kL_X7_218 (ci := 6) rfl sh_21 rfl (by decide) (Nat.le_of_ble_eq_true rfl) rfl (m_X6_firstSale_21 _ d mem (by omega)) ?_
        rintro _ _ ⟨rfl, rfl⟩
        refine ok_iload_n F dX7_sale_34 2 rfl ?_
        refine ok_iadd F dX7_sale_35 ?_
        refine ok_istore (lv' := [(4, pI ((fstD (mem 29) d) + k)), (0, pR 20), (1, pI d), (2, pI k), (3, pI w)]) F dX7_sale_36 (by decide) rfl ?_
        refine ok_iload_n F dX7_sale_38 4 rfl ?_
        refine ok_bipush F dX7_sale_39 rfl ?_
        refine ok_icmp_lt F 69 dX7_sale_41 (by decide) (by omega) (by omega) (fun c_4 => ?_) (fun c_4 => ?_)
        · refine ok_iload_n F dX7_sale_69 4 rfl ?_
          by_cases c_5o : w < 0 ∨ 2 < w
          · refine ok_tabOut F 126 dX7_sale_70 (by omega) c_5o (by decide) ?_
            refine ok_iconst F dX7_sale_126 ?_
            refine ok_iret F G dX7_sale_127 ?_
            exact ⟨by rw [if_pos (by omega), if_neg (by omega), if_neg (by omega), if_neg (by omega), if_neg (by omega)], rfl⟩
          by_cases c_5_0 : w = 0
          · refine ok_tabIn F 96 dX7_sale_70 (by omega) (by omega) (by omega) (off := 26) (by rw [c_5_0]; rfl) (by decide) ?_
            refine ok_aload_n F dX7_sale_96 1 rfl ?_
            refine ok_getr F dX7_sale_97 kF_X7_10 sh_20 rfl ?_
            refine ok_iload F dX7_sale_100 0 rfl ?_
            refine ok_callv F [pI ((fstD (mem 29) d) + k)] dX7_sale_102 kM_X6_priceOf kI_X6_priceOf kV_X6_priceOf kL_X7_224 (ci := 6) rfl sh_21 rfl (by decide) (Nat.le_of_ble_eq_true rfl) rfl (m_X6_priceOf _ ((fstD (mem 29) d) + k) mem (by omega)) ?_
            rintro _ _ ⟨rfl, rfl⟩
            refine ok_iret F G dX7_sale_105 ?_
            exact ⟨by rw [if_pos (by omega), if_neg (by omega), if_pos (by omega)], rfl⟩
          by_cases c_5_1 : w = 1
          · refine ok_tabIn F 106 dX7_sale_70 (by omega) (by omega) (by omega) (off := 36) (by rw [c_5_1]; rfl) (by decide) ?_
            refine ok_aload_n F dX7_sale_106 1 rfl ?_
            refine ok_getr F dX7_sale_107 kF_X7_10 sh_20 rfl ?_
            refine ok_iload F dX7_sale_110 0 rfl ?_
            refine ok_callv F [pI ((fstD (mem 29) d) + k)] dX7_sale_112 kM_X6_givenWorth kI_X6_givenWorth kV_X6_givenWorth kL_X7_227 (ci := 6) rfl sh_21 rfl (by decide) (Nat.le_of_ble_eq_true rfl) rfl (m_X6_givenWorth _ ((fstD (mem 29) d) + k) mem (by omega) (by omega)) ?_
            rintro _ _ ⟨rfl, rfl⟩
            refine ok_iret F G dX7_sale_115 ?_
            exact ⟨by rw [if_pos (by omega), if_neg (by omega), if_neg (by omega), if_pos (by omega)], rfl⟩
          by_cases c_5_2 : w = 2
          · refine ok_tabIn F 116 dX7_sale_70 (by omega) (by omega) (by omega) (off := 46) (by rw [c_5_2]; rfl) (by decide) ?_
            refine ok_aload_n F dX7_sale_116 1 rfl ?_
            refine ok_getr F dX7_sale_117 kF_X7_10 sh_20 rfl ?_
            refine ok_iload F dX7_sale_120 0 rfl ?_
            refine ok_callv F [pI ((fstD (mem 29) d) + k)] dX7_sale_122 kM_X6_givenPieces kI_X6_givenPieces kV_X6_givenPieces kL_X7_230 (ci := 6) rfl sh_21 rfl (by decide) (Nat.le_of_ble_eq_true rfl) rfl (m_X6_givenPieces _ ((fstD (mem 29) d) + k) mem (by omega) (by omega)) ?_
            rintro _ _ ⟨rfl, rfl⟩
            refine ok_iret F G dX7_sale_125 ?_
            exact ⟨by rw [if_pos (by omega), if_neg (by omega), if_neg (by omega), if_neg (by omega), if_pos (by omega)], rfl⟩
          exfalso; omega
        · refine ok_aload_n F dX7_sale_44 1 rfl ?_
          refine ok_iload_n F dX7_sale_45 4 rfl ?_
          refine ok_bipush F dX7_sale_46 rfl ?_
          refine ok_isub F dX7_sale_48 ?_
          refine ok_callv F [pI (w - 10)] dX7_sale_49 kM_X7_hasKind kI_X7_hasKind kV_X7_hasKind kL_X7_106 (ci := 7) rfl sh_20 rfl (by decide) (Nat.le_of_ble_eq_true rfl) rfl (m_X7_hasKind _ (w - 10) mem (by omega) (by omega)) ?_
          rintro _ _ ⟨rfl, rfl⟩
          refine ok_if_eq F 69 dX7_sale_52 (by decide) (by omega) (fun c_6 => ?_) (fun c_6 => ?_)
          · refine ok_iload_n F dX7_sale_69 4 rfl ?_
            by_cases c_7o : w < 0 ∨ 2 < w
            · refine ok_tabOut F 126 dX7_sale_70 (by omega) c_7o (by decide) ?_
              refine ok_iconst F dX7_sale_126 ?_
              refine ok_iret F G dX7_sale_127 ?_
              exact ⟨by rw [if_pos (by omega), if_neg (by omega), if_neg (by omega), if_neg (by omega), if_neg (by omega)], rfl⟩
            by_cases c_7_0 : w = 0
            · refine ok_tabIn F 96 dX7_sale_70 (by omega) (by omega) (by omega) (off := 26) (by rw [c_7_0]; rfl) (by decide) ?_
              refine ok_aload_n F dX7_sale_96 1 rfl ?_
              refine ok_getr F dX7_sale_97 kF_X7_10 sh_20 rfl ?_
              refine ok_iload F dX7_sale_100 0 rfl ?_
              refine ok_callv F [pI ((fstD (mem 29) d) + k)] dX7_sale_102 kM_X6_priceOf kI_X6_priceOf kV_X6_priceOf kL_X7_224 (ci := 6) rfl sh_21 rfl (by decide) (Nat.le_of_ble_eq_true rfl) rfl (m_X6_priceOf _ ((fstD (mem 29) d) + k) mem (by omega)) ?_
              rintro _ _ ⟨rfl, rfl⟩
              refine ok_iret F G dX7_sale_105 ?_
              exact ⟨by rw [if_pos (by omega), if_neg (by omega), if_pos (by omega)], rfl⟩
            by_cases c_7_1 : w = 1
            · refine ok_tabIn F 106 dX7_sale_70 (by omega) (by omega) (by omega) (off := 36) (by rw [c_7_1]; rfl) (by decide) ?_
              refine ok_aload_n F dX7_sale_106 1 rfl ?_
              refine ok_getr F dX7_sale_107 kF_X7_10 sh_20 rfl ?_
              refine ok_iload F dX7_sale_110 0 rfl ?_
              refine ok_callv F [pI ((fstD (mem 29) d) + k)] dX7_sale_112 kM_X6_givenWorth kI_X6_givenWorth kV_X6_givenWorth kL_X7_227 (ci := 6) rfl sh_21 rfl (by decide) (Nat.le_of_ble_eq_true rfl) rfl (m_X6_givenWorth _ ((fstD (mem 29) d) + k) mem (by omega) (by omega)) ?_
              rintro _ _ ⟨rfl, rfl⟩
              refine ok_iret F G dX7_sale_115 ?_
              exact ⟨by rw [if_pos (by omega), if_neg (by omega), if_neg (by omega), if_pos (by omega)], rfl⟩
            by_cases c_7_2 : w = 2
            · refine ok_tabIn F 116 dX7_sale_70 (by omega) (by omega) (by omega) (off := 46) (by rw [c_7_2]; rfl) (by decide) ?_
              refine ok_aload_n F dX7_sale_116 1 rfl ?_
              refine ok_getr F dX7_sale_117 kF_X7_10 sh_20 rfl ?_
              refine ok_iload F dX7_sale_120 0 rfl ?_
              refine ok_callv F [pI ((fstD (mem 29) d) + k)] dX7_sale_122 kM_X6_givenPieces kI_X6_givenPieces kV_X6_givenPieces kL_X7_230 (ci := 6) rfl sh_21 rfl (by decide) (Nat.le_of_ble_eq_true rfl) rfl (m_X6_givenPieces _ ((fstD (mem 29) d) + k) mem (by omega) (by omega)) ?_
              rintro _ _ ⟨rfl, rfl⟩
              refine ok_iret F G dX7_sale_125 ?_
              exact ⟨by rw [if_pos (by omega), if_neg (by omega), if_neg (by omega), if_neg (by omega), if_pos (by omega)], rfl⟩
            exfalso; omega
          · refine ok_aload_n F dX7_sale_55 1 rfl ?_
            refine ok_getr F dX7_sale_56 kF_X7_10 sh_20 rfl ?_
            refine ok_iload F dX7_sale_59 0 rfl ?_
            refine ok_iload_n F dX7_sale_61 4 rfl ?_
            refine ok_bipush F dX7_sale_62 rfl ?_
            refine ok_isub F dX7_sale_64 ?_
            refine ok_callv F [pI ((fstD (mem 29) d) + k), pI (w - 10)] dX7_sale_65 kM_X6_givenOf kI_X6_givenOf kV_X6_givenOf kL_X7_221 (ci := 6) rfl sh_21 rfl (by decide) (Nat.le_of_ble_eq_true rfl) rfl (m_X6_givenOf _ ((fstD (mem 29) d) + k) (w - 10) mem (by omega) (by omega)) ?_
            rintro _ _ ⟨rfl, rfl⟩
            refine ok_iret F G dX7_sale_68 ?_
            exact ⟨by rw [if_pos (by omega), if_pos (by omega)], rfl⟩
      · refine ok_iconst F dX7_sale_24 ?_
        refine ok_iret F G dX7_sale_25 ?_
        exact ⟨by rw [if_neg (by omega)], rfl⟩
theorem dX7_bags_0 : decode cX7_bags 0 = .ok (.aload_n 0, 1) := by decide +kernel
theorem dX7_bags_1 : decode cX7_bags 1 = .ok (.iload_n 1, 1) := by decide +kernel
theorem dX7_bags_2 : decode cX7_bags 2 = .ok (.invokevirtual 106, 3) := by decide +kernel
theorem dX7_bags_5 : decode cX7_bags 5 = .ok (.ifCond .ne 5, 3) := by decide +kernel
theorem dX7_bags_8 : decode cX7_bags 8 = .ok (.iconst (-1), 1) := by decide +kernel
theorem dX7_bags_9 : decode cX7_bags 9 = .ok (.ireturn, 1) := by decide +kernel
theorem dX7_bags_10 : decode cX7_bags 10 = .ok (.aload_n 0, 1) := by decide +kernel
theorem dX7_bags_11 : decode cX7_bags 11 = .ok (.getfield 10, 3) := by decide +kernel
theorem dX7_bags_14 : decode cX7_bags 14 = .ok (.getfield 161, 3) := by decide +kernel
theorem dX7_bags_17 : decode cX7_bags 17 = .ok (.iload_n 1, 1) := by decide +kernel
theorem dX7_bags_18 : decode cX7_bags 18 = .ok (.iaload, 1) := by decide +kernel
theorem dX7_bags_19 : decode cX7_bags 19 = .ok (.aload_n 0, 1) := by decide +kernel
theorem dX7_bags_20 : decode cX7_bags 20 = .ok (.getfield 10, 3) := by decide +kernel
theorem dX7_bags_23 : decode cX7_bags 23 = .ok (.getfield 133, 3) := by decide +kernel
theorem dX7_bags_26 : decode cX7_bags 26 = .ok (.iload_n 1, 1) := by decide +kernel
theorem dX7_bags_27 : decode cX7_bags 27 = .ok (.iaload, 1) := by decide +kernel
theorem dX7_bags_28 : decode cX7_bags 28 = .ok (.isub, 1) := by decide +kernel
theorem dX7_bags_29 : decode cX7_bags 29 = .ok (.istore_n 2, 1) := by decide +kernel
theorem dX7_bags_30 : decode cX7_bags 30 = .ok (.aload_n 0, 1) := by decide +kernel
theorem dX7_bags_31 : decode cX7_bags 31 = .ok (.getfield 10, 3) := by decide +kernel
theorem dX7_bags_34 : decode cX7_bags 34 = .ok (.getfield 173, 3) := by decide +kernel
theorem dX7_bags_37 : decode cX7_bags 37 = .ok (.iload_n 1, 1) := by decide +kernel
theorem dX7_bags_38 : decode cX7_bags 38 = .ok (.iaload, 1) := by decide +kernel
theorem dX7_bags_39 : decode cX7_bags 39 = .ok (.istore_n 3, 1) := by decide +kernel
theorem dX7_bags_40 : decode cX7_bags 40 = .ok (.iload_n 2, 1) := by decide +kernel
theorem dX7_bags_41 : decode cX7_bags 41 = .ok (.ifCond .le 8, 3) := by decide +kernel
theorem dX7_bags_44 : decode cX7_bags 44 = .ok (.iload_n 3, 1) := by decide +kernel
theorem dX7_bags_45 : decode cX7_bags 45 = .ok (.iconst 1, 1) := by decide +kernel
theorem dX7_bags_46 : decode cX7_bags 46 = .ok (.if_icmp .ge 7, 3) := by decide +kernel
theorem dX7_bags_49 : decode cX7_bags 49 = .ok (.iconst 0, 1) := by decide +kernel
theorem dX7_bags_50 : decode cX7_bags 50 = .ok (.goto 10, 3) := by decide +kernel
theorem dX7_bags_53 : decode cX7_bags 53 = .ok (.iload_n 2, 1) := by decide +kernel
theorem dX7_bags_54 : decode cX7_bags 54 = .ok (.iload_n 3, 1) := by decide +kernel
theorem dX7_bags_55 : decode cX7_bags 55 = .ok (.iadd, 1) := by decide +kernel
theorem dX7_bags_56 : decode cX7_bags 56 = .ok (.iconst 1, 1) := by decide +kernel
theorem dX7_bags_57 : decode cX7_bags 57 = .ok (.isub, 1) := by decide +kernel
theorem dX7_bags_58 : decode cX7_bags 58 = .ok (.iload_n 3, 1) := by decide +kernel
theorem dX7_bags_59 : decode cX7_bags 59 = .ok (.idiv, 1) := by decide +kernel
theorem dX7_bags_60 : decode cX7_bags 60 = .ok (.ireturn, 1) := by decide +kernel
set_option maxHeartbeats 4000000 in
set_option maxRecDepth 100000 in
theorem m_X7_bags (l : Launch) (k : Int) (mem : Mem) (hk : i32 k) (hN : 0 ≤ mem 21 0 ∧ mem 21 0 ≤ 8) (hTl : ∀ k : Nat, k < 8 → 0 ≤ mem 23 k ∧ mem 23 k ≤ 99) (hLm : ∀ k : Nat, k < 8 → 0 ≤ mem 25 k ∧ mem 25 k ≤ 99) (hBg : ∀ k : Nat, k < 8 → 0 ≤ mem 26 k ∧ mem 26 k ≤ 99) : Ret shp l yX7_bags cX7_bags 4 (some .int) 1 [pR 20, pI k] mem (fun rv mv => rv = some (pI (if 0 ≤ k ∧ k < mem 21 0 then (if mem 25 k.toNat - mem 23 k.toNat ≤ 0 ∨ mem 26 k.toNat < 1 then 0 else (mem 25 k.toNat - mem 23 k.toNat + mem 26 k.toNat - 1).tdiv (mem 26 k.toNat)) else -1)) ∧ mem = mv) := by
  refine ret_of (by decide +kernel) (Nat.le_of_ble_eq_true rfl) (fun X hX F G => ?_)
  show Ok shp X 4 0 [(0, pR 20), (1, pI k)] [] mem
  refine ok_aload_n F dX7_bags_0 0 rfl ?_
  refine ok_iload_n F dX7_bags_1 1 rfl ?_
  refine ok_callv F [pI k] dX7_bags_2 kM_X7_hasKind kI_X7_hasKind kV_X7_hasKind kL_X7_106 (ci := 7) rfl sh_20 rfl (by decide) (Nat.le_of_ble_eq_true rfl) rfl (m_X7_hasKind _ k mem (by omega) (by omega)) ?_
  rintro _ _ ⟨rfl, rfl⟩
  refine ok_if_ne F 10 dX7_bags_5 (by decide) (by omega) (fun c_1 => ?_) (fun c_1 => ?_)
  · have q1 := hTl k.toNat (by omega)
    have q2 := hLm k.toNat (by omega)
    have q3 := hBg k.toNat (by omega)
    refine ok_aload_n F dX7_bags_10 0 rfl ?_
    refine ok_getr F dX7_bags_11 kF_X7_10 sh_20 rfl ?_
    refine ok_getr F dX7_bags_14 kF_X7_161 sh_21 rfl ?_
    refine ok_iload_n F dX7_bags_17 1 rfl ?_
    refine ok_iald (v := mem 25 k.toNat) F dX7_bags_18 sh_25 (by first | decide | assumption) (by omega) (by omega) rfl ?_
    refine ok_aload_n F dX7_bags_19 0 rfl ?_
    refine ok_getr F dX7_bags_20 kF_X7_10 sh_20 rfl ?_
    refine ok_getr F dX7_bags_23 kF_X7_133 sh_21 rfl ?_
    refine ok_iload_n F dX7_bags_26 1 rfl ?_
    refine ok_iald (v := mem 23 k.toNat) F dX7_bags_27 sh_23 (by first | decide | assumption) (by omega) (by omega) rfl ?_
    refine ok_isub F dX7_bags_28 ?_
    refine ok_istore_n (lv' := [(2, pI ((mem 25 k.toNat) - (mem 23 k.toNat))), (0, pR 20), (1, pI k)]) F dX7_bags_29 (by decide) rfl ?_
    refine ok_aload_n F dX7_bags_30 1 rfl ?_
    refine ok_getr F dX7_bags_31 kF_X7_10 sh_20 rfl ?_
    refine ok_getr F dX7_bags_34 kF_X7_173 sh_21 rfl ?_
    refine ok_iload_n F dX7_bags_37 2 rfl ?_
    refine ok_iald (v := mem 26 k.toNat) F dX7_bags_38 sh_26 (by first | decide | assumption) (by omega) (by omega) rfl ?_
    refine ok_istore_n (lv' := [(3, pI (mem 26 k.toNat)), (2, pI ((mem 25 k.toNat) - (mem 23 k.toNat))), (0, pR 20), (1, pI k)]) F dX7_bags_39 (by decide) rfl ?_
    refine ok_iload_n F dX7_bags_40 1 rfl ?_
    refine ok_if_le F 49 dX7_bags_41 (by decide) (by omega) (fun c_2 => ?_) (fun c_2 => ?_)
    · refine ok_iconst F dX7_bags_49 ?_
      refine ok_goto F 60 dX7_bags_50 (by decide) ?_
      refine ok_iret F G dX7_bags_60 ?_
      refine ⟨?_, rfl⟩
      rw [if_pos (by omega)]
      first | rw [if_pos (by omega)] | rw [if_neg (by omega)]
    · refine ok_iload_n F dX7_bags_44 0 rfl ?_
      refine ok_iconst F dX7_bags_45 ?_
      refine ok_icmp_ge F 53 dX7_bags_46 (by decide) (by omega) (by omega) (fun c_3 => ?_) (fun c_3 => ?_)
      · refine ok_iload_n F dX7_bags_53 1 rfl ?_
        refine ok_iload_n F dX7_bags_54 0 rfl ?_
        refine ok_iadd F dX7_bags_55 ?_
        refine ok_iconst F dX7_bags_56 ?_
        refine ok_isub F dX7_bags_57 ?_
        refine ok_iload_n F dX7_bags_58 0 rfl ?_
        refine ok_idiv F dX7_bags_59 (by omega) (by omega) (by omega) ?_
        refine ok_iret F G dX7_bags_60 ?_
        refine ⟨?_, rfl⟩
        rw [if_pos (by omega)]
        first | rw [if_pos (by omega)] | rw [if_neg (by omega)]
      · refine ok_iconst F dX7_bags_49 ?_
        refine ok_goto F 60 dX7_bags_50 (by decide) ?_
        refine ok_iret F G dX7_bags_60 ?_
        refine ⟨?_, rfl⟩
        rw [if_pos (by omega)]
        first | rw [if_pos (by omega)] | rw [if_neg (by omega)]
  · refine ok_iconst F dX7_bags_8 ?_
    refine ok_iret F G dX7_bags_9 ?_
    exact ⟨by rw [if_neg (by omega)], rfl⟩
