/-! the reference: the tape, the past, the shelves, the acts that reckon nothing -/
theorem nar_i2b (x : Int) : vp_nar .byte (Int32.ofInt (i2b x)) = Int32.ofInt (i2b x) := by
  unfold i2b
  rw [Int32.ofInt_toInt]
  exact pk_vb _
/-- n of a number's four bytes behind the tape -/
def putsN (mem : Mem) (v : Int) (n : Nat) : Mem := fun a b => if a = 6 ∧ (mem 0 7).toNat ≤ b ∧ b < (mem 0 7).toNat + n then i2b (ishr v (24 - 8 * ((b - (mem 0 7).toNat : Nat) : Int))) else if a = 0 ∧ b = 7 then mem 0 7 + n else mem a b
theorem putsN_0 (mem : Mem) (v : Int) : putsN mem v 0 = mem := by
  funext a b
  unfold putsN
  rw [if_neg (by omega)]
  by_cases h : a = 0 ∧ b = 7
  · obtain ⟨rfl, rfl⟩ := h
    rw [if_pos ⟨rfl, rfl⟩]
    omega
  · rw [if_neg h]
theorem putsN_T (mem : Mem) (v : Int) (n : Nat) : putsN mem v n 0 7 = mem 0 7 + n := by
  unfold putsN
  rw [if_neg (by omega), if_pos ⟨rfl, rfl⟩]
theorem putsN_s {mem : Mem} {v : Int} {n : Nat} (h : 0 ≤ mem 0 7) : mset (mset (putsN mem v n) 6 (putsN mem v n 0 7).toNat (i2b (ishr v (24 - 8 * (n : Int))))) 0 7 (putsN mem v n 0 7 + 1) = putsN mem v (n + 1) := by
  rw [putsN_T]
  funext a b
  unfold mset
  by_cases h1 : a = 0 ∧ b = 7
  · obtain ⟨rfl, rfl⟩ := h1
    rw [if_pos ⟨rfl, rfl⟩, putsN_T]
    omega
  · rw [if_neg h1]
    by_cases h2 : a = 6 ∧ b = (mem 0 7 + (n : Int)).toNat
    · obtain ⟨rfl, rfl⟩ := h2
      rw [if_pos ⟨rfl, rfl⟩]
      unfold putsN
      rw [if_pos (by omega), show (((mem 0 7 + (n : Int)).toNat - (mem 0 7).toNat : Nat) : Int) = n by omega]
    · rw [if_neg h2]
      unfold putsN
      by_cases h3 : a = 6 ∧ (mem 0 7).toNat ≤ b ∧ b < (mem 0 7).toNat + n
      · rw [if_pos h3, if_pos (by omega)]
      · rw [if_neg h3, if_neg h1, if_neg (by omega), if_neg h1]
/-- twenty bytes behind the tape -/
def feedN (mem : Mem) (a b c d e : Int) : Mem := putsN (putsN (putsN (putsN (putsN mem a 4) b 4) c 4) d 4) e 4
/-- what an act leaves in the past: now behind it, the oldest of ten gone -/
def PastPush (mem mv : Mem) : Prop := (∀ a, a ≠ 0 → a ≠ 3 → mv a = mem a) ∧ (∀ j, j ≠ 5 → mv 0 j = mem 0 j) ∧ ∃ q s : Nat, q ≤ 9 ∧ mv 0 5 = q + 1 ∧ (s = 0 ∧ mem 0 5 = q ∨ s = 1 ∧ q = 9 ∧ mem 0 5 = 10) ∧ (∀ b, b < 459 → mv 3 (459 * q + b) = mem 1 b) ∧ ∀ i b, i < q → b < 459 → mv 3 (459 * i + b) = mem 3 (459 * (i + s) + b)
theorem PastPush.now {mem mv : Mem} (h : PastPush mem mv) : mv 1 = mem 1 := h.1 1 (by decide) (by decide)
theorem pushFin {mem m mv : Mem} {q s : Nat} {z w : Int} (hm : ∀ a, a ≠ 0 → a ≠ 3 → m a = mem a) (hj : ∀ j, j ≠ 5 → m 0 j = mem 0 j) (hs : ∀ i b, i < q → b < 459 → m 3 (459 * i + b) = mem 3 (459 * (i + s) + b)) (hq : q ≤ 9) (hc : s = 0 ∧ mem 0 5 = q ∨ s = 1 ∧ q = 9 ∧ mem 0 5 = 10) (hz : z.toNat = 459 * q) (hw : w = q + 1) (e : mv = mset (cpyN m 1 (0 : Int).toNat 3 z.toNat 459) 0 5 w) : PastPush mem mv := by
  subst e
  rw [hz]
  refine ⟨fun a h0 h3 => ?_, fun j h5 => ?_, q, s, hq, ?_, hc, fun b hb => ?_, fun i b hi hb => ?_⟩
  · rw [← hm a h0 h3]
    funext b
    rw [mset_nk h0]
    exact if_neg (fun x => h3 x.1)
  · rw [← hj j h5, mset_ne (fun x => h5 x.2)]
    exact if_neg (by omega)
  · rw [mset_eq, hw]
  · rw [mset_nk (by decide)]
    unfold cpyN
    rw [if_pos (by omega), ← hm 1 (by decide) (by decide)]
    congr 1
    show (0 : Nat) + _ = b
    omega
  · rw [mset_nk (by decide), ← hs i b hi hb]
    exact if_neg (by omega)

theorem dX8_puts_0 : decode cX8_puts 0 = .ok (.bipush 24, 2) := by decide +kernel
theorem dX8_puts_2 : decode cX8_puts 2 = .ok (.istore_n 2, 1) := by decide +kernel
theorem dX8_puts_3 : decode cX8_puts 3 = .ok (.iload_n 2, 1) := by decide +kernel
theorem dX8_puts_4 : decode cX8_puts 4 = .ok (.ifCond .lt 32, 3) := by decide +kernel
theorem dX8_puts_7 : decode cX8_puts 7 = .ok (.aload_n 0, 1) := by decide +kernel
theorem dX8_puts_8 : decode cX8_puts 8 = .ok (.getfield 26, 3) := by decide +kernel
theorem dX8_puts_11 : decode cX8_puts 11 = .ok (.aload_n 0, 1) := by decide +kernel
theorem dX8_puts_12 : decode cX8_puts 12 = .ok (.getfield 71, 3) := by decide +kernel
theorem dX8_puts_15 : decode cX8_puts 15 = .ok (.iload_n 1, 1) := by decide +kernel
theorem dX8_puts_16 : decode cX8_puts 16 = .ok (.iload_n 2, 1) := by decide +kernel
theorem dX8_puts_17 : decode cX8_puts 17 = .ok (.ishr, 1) := by decide +kernel
theorem dX8_puts_18 : decode cX8_puts 18 = .ok (.i2b, 1) := by decide +kernel
theorem dX8_puts_19 : decode cX8_puts 19 = .ok (.bastore, 1) := by decide +kernel
theorem dX8_puts_20 : decode cX8_puts 20 = .ok (.aload_n 0, 1) := by decide +kernel
theorem dX8_puts_21 : decode cX8_puts 21 = .ok (.dup, 1) := by decide +kernel
theorem dX8_puts_22 : decode cX8_puts 22 = .ok (.getfield 71, 3) := by decide +kernel
theorem dX8_puts_25 : decode cX8_puts 25 = .ok (.iconst 1, 1) := by decide +kernel
theorem dX8_puts_26 : decode cX8_puts 26 = .ok (.iadd, 1) := by decide +kernel
theorem dX8_puts_27 : decode cX8_puts 27 = .ok (.putfield 71, 3) := by decide +kernel
theorem dX8_puts_30 : decode cX8_puts 30 = .ok (.iinc 2 (-8), 3) := by decide +kernel
theorem dX8_puts_33 : decode cX8_puts 33 = .ok (.goto (-30), 3) := by decide +kernel
theorem dX8_puts_36 : decode cX8_puts 36 = .ok (.return_, 1) := by decide +kernel
set_option maxHeartbeats 4000000 in
set_option maxRecDepth 100000 in
theorem m_X8_puts (l : Launch) (v : Int) (mem : Mem) (hT : 0 ≤ mem 0 7 ∧ mem 0 7 ≤ 396) : Ret shp l yX8_puts cX8_puts 3 none 0 [pR 0, pI v] mem (fun rv mv => rv = none ∧ mv = putsN mem v 4) := by
  refine ret_of (by decide +kernel) (Nat.le_of_ble_eq_true rfl) (fun X hX F G => ?_)
  show Ok shp X 3 0 [(0, pR 0), (1, pI v)] [] mem
  refine ok_bipush F dX8_puts_0 rfl ?_
  refine ok_istore_n (lv' := [(2, pI 24), (0, pR 0), (1, pI v)]) F dX8_puts_2 (by decide) rfl ?_
  have hL_3 : ∀ (n_3 : Nat) (k : Int) (m : Mem), (∃ n : Nat, n ≤ 4 ∧ k = 24 - 8 * (n : Int) ∧ m = putsN mem v n) → (k + 8).toNat = n_3 → Ok shp X 3 3 [(0, pR 0), (1, pI v), (2, pI k)] [] m := by
    intro n_3
    induction n_3 using Nat.strongRecOn with
    | _ n_3 ih_3 =>
      intro k m hI_3 hn_3
      obtain ⟨i, hi, hk, hm⟩ := hI_3
      have hT2 := putsN_T mem v i
      rw [← hm] at hT2
      refine ok_iload_n F dX8_puts_3 2 rfl ?_
      refine ok_if_lt F 36 dX8_puts_4 (by decide) (by omega) (fun c_1 => ?_) (fun c_1 => ?_)
      · refine ok_vret F G dX8_puts_36 ?_
        exact ⟨rfl, by rw [hm, show i = 4 by omega]⟩
      · refine ok_aload_n F dX8_puts_7 0 rfl ?_
        refine ok_getr F dX8_puts_8 kF_X8_26 sh_0 rfl ?_
        refine ok_aload_n F dX8_puts_11 0 rfl ?_
        refine ok_getf (v := m 0 7) F dX8_puts_12 kF_X8_71 sh_0 rfl rfl ?_
        refine ok_iload_n F dX8_puts_15 1 rfl ?_
        refine ok_iload_n F dX8_puts_16 2 rfl ?_
        refine ok_ishr F dX8_puts_17 ?_
        refine ok_i2b F dX8_puts_18 ?_
        refine ok_bast F dX8_puts_19 sh_6 (by first | decide | assumption) (by omega) (by omega) (nar_i2b _) (fun m_2 e_3 => ?_)
        refine ok_aload_n F dX8_puts_20 0 rfl ?_
        refine ok_dup F dX8_puts_21 rfl ?_
        refine ok_getf (v := m 0 7) F dX8_puts_22 kF_X8_71 sh_0 rfl (by rw [e_3, mset_nk (by decide)] <;> rfl) ?_
        refine ok_iconst F dX8_puts_25 ?_
        refine ok_iadd F dX8_puts_26 ?_
        refine ok_putf F dX8_puts_27 kF_X8_71 sh_0 rfl rfl rfl (fun m_4 e_5 => ?_)
        refine ok_iinc (lv' := [(2, pI (k + (-8))), (0, pR 0), (1, pI v)]) F dX8_puts_30 2 rfl (by decide) rfl ?_
        refine ok_goto F 3 dX8_puts_33 (by decide) ?_
        refine ok_lvp [1, 2, 0] (lv' := [(0, pR 0), (1, pI v), (2, pI (k + (-8)))]) rfl ?_
        refine ih_3 _ ?_ (k + (-8)) m_4 ?_ rfl
        · omega
        · refine ⟨i + 1, by omega, by omega, ?_⟩
          rw [e_5, e_3, hk, hm]
          exact putsN_s hT.1
  refine ok_lvp [1, 2, 0] (lv' := [(0, pR 0), (1, pI v), (2, pI 24)]) rfl ?_
  refine hL_3 _ 24 mem ?_ rfl
  exact ⟨0, by omega, rfl, (putsN_0 _ _).symm⟩
theorem dX8_feed_0 : decode cX8_feed 0 = .ok (.aload_n 0, 1) := by decide +kernel
theorem dX8_feed_1 : decode cX8_feed 1 = .ok (.getfield 71, 3) := by decide +kernel
theorem dX8_feed_4 : decode cX8_feed 4 = .ok (.bipush 20, 2) := by decide +kernel
theorem dX8_feed_6 : decode cX8_feed 6 = .ok (.iadd, 1) := by decide +kernel
theorem dX8_feed_7 : decode cX8_feed 7 = .ok (.sipush 400, 3) := by decide +kernel
theorem dX8_feed_10 : decode cX8_feed 10 = .ok (.if_icmp .le 5, 3) := by decide +kernel
theorem dX8_feed_13 : decode cX8_feed 13 = .ok (.iconst (-1), 1) := by decide +kernel
theorem dX8_feed_14 : decode cX8_feed 14 = .ok (.ireturn, 1) := by decide +kernel
theorem dX8_feed_15 : decode cX8_feed 15 = .ok (.aload_n 0, 1) := by decide +kernel
theorem dX8_feed_16 : decode cX8_feed 16 = .ok (.iload_n 1, 1) := by decide +kernel
theorem dX8_feed_17 : decode cX8_feed 17 = .ok (.invokevirtual 75, 3) := by decide +kernel
theorem dX8_feed_20 : decode cX8_feed 20 = .ok (.aload_n 0, 1) := by decide +kernel
theorem dX8_feed_21 : decode cX8_feed 21 = .ok (.iload_n 2, 1) := by decide +kernel
theorem dX8_feed_22 : decode cX8_feed 22 = .ok (.invokevirtual 75, 3) := by decide +kernel
theorem dX8_feed_25 : decode cX8_feed 25 = .ok (.aload_n 0, 1) := by decide +kernel
theorem dX8_feed_26 : decode cX8_feed 26 = .ok (.iload_n 3, 1) := by decide +kernel
theorem dX8_feed_27 : decode cX8_feed 27 = .ok (.invokevirtual 75, 3) := by decide +kernel
theorem dX8_feed_30 : decode cX8_feed 30 = .ok (.aload_n 0, 1) := by decide +kernel
theorem dX8_feed_31 : decode cX8_feed 31 = .ok (.iload 4, 2) := by decide +kernel
theorem dX8_feed_33 : decode cX8_feed 33 = .ok (.invokevirtual 75, 3) := by decide +kernel
theorem dX8_feed_36 : decode cX8_feed 36 = .ok (.aload_n 0, 1) := by decide +kernel
theorem dX8_feed_37 : decode cX8_feed 37 = .ok (.iload 5, 2) := by decide +kernel
theorem dX8_feed_39 : decode cX8_feed 39 = .ok (.invokevirtual 75, 3) := by decide +kernel
theorem dX8_feed_42 : decode cX8_feed 42 = .ok (.aload_n 0, 1) := by decide +kernel
theorem dX8_feed_43 : decode cX8_feed 43 = .ok (.getfield 71, 3) := by decide +kernel
theorem dX8_feed_46 : decode cX8_feed 46 = .ok (.ireturn, 1) := by decide +kernel
set_option maxHeartbeats 4000000 in
set_option maxRecDepth 100000 in
theorem m_X8_feed (l : Launch) (a : Int) (b : Int) (c : Int) (d : Int) (e : Int) (mem : Mem) (hT : 0 ≤ mem 0 7 ∧ mem 0 7 ≤ 400) : Ret shp l yX8_feed cX8_feed 6 (some .int) 1 [pR 0, pI a, pI b, pI c, pI d, pI e] mem (fun rv mv => rv = some (pI (if 400 < mem 0 7 + 20 then -1 else mem 0 7 + 20)) ∧ mv = if 400 < mem 0 7 + 20 then mem else feedN mem a b c d e) := by
  refine ret_of (by decide +kernel) (Nat.le_of_ble_eq_true rfl) (fun X hX F G => ?_)
  show Ok shp X 6 0 [(0, pR 0), (1, pI a), (2, pI b), (3, pI c), (4, pI d), (5, pI e)] [] mem
  refine ok_aload_n F dX8_feed_0 0 rfl ?_
  refine ok_getf (v := mem 0 7) F dX8_feed_1 kF_X8_71 sh_0 rfl rfl ?_
  refine ok_bipush F dX8_feed_4 rfl ?_
  refine ok_iadd F dX8_feed_6 ?_
  refine ok_sipush F dX8_feed_7 rfl ?_
  refine ok_icmp_le F 15 dX8_feed_10 (by decide) (by omega) (by omega) (fun c_1 => ?_) (fun c_1 => ?_)
  · refine ok_aload_n F dX8_feed_15 0 rfl ?_
    refine ok_iload_n F dX8_feed_16 1 rfl ?_
    refine ok_callv F [pI a] dX8_feed_17 kM_X8_puts kI_X8_puts kV_X8_puts kL_X8_75 (ci := 8) rfl sh_0 rfl (by decide) (Nat.le_of_ble_eq_true rfl) rfl (m_X8_puts _ a mem (by first | omega | (subst_vars; simp only [putsN_T]; omega))) ?_
    rintro _ m_2 ⟨rfl, e_3⟩
    refine ok_aload_n F dX8_feed_20 0 rfl ?_
    refine ok_iload_n F dX8_feed_21 2 rfl ?_
    refine ok_callv F [pI b] dX8_feed_22 kM_X8_puts kI_X8_puts kV_X8_puts kL_X8_75 (ci := 8) rfl sh_0 rfl (by decide) (Nat.le_of_ble_eq_true rfl) rfl (m_X8_puts _ b m_2 (by first | omega | (subst_vars; simp only [putsN_T]; omega))) ?_
    rintro _ m_4 ⟨rfl, e_5⟩
    refine ok_aload_n F dX8_feed_25 0 rfl ?_
    refine ok_iload_n F dX8_feed_26 3 rfl ?_
    refine ok_callv F [pI c] dX8_feed_27 kM_X8_puts kI_X8_puts kV_X8_puts kL_X8_75 (ci := 8) rfl sh_0 rfl (by decide) (Nat.le_of_ble_eq_true rfl) rfl (m_X8_puts _ c m_4 (by first | omega | (subst_vars; simp only [putsN_T]; omega))) ?_
    rintro _ m_6 ⟨rfl, e_7⟩
    refine ok_aload_n F dX8_feed_30 0 rfl ?_
    refine ok_iload F dX8_feed_31 4 rfl ?_
    refine ok_callv F [pI d] dX8_feed_33 kM_X8_puts kI_X8_puts kV_X8_puts kL_X8_75 (ci := 8) rfl sh_0 rfl (by decide) (Nat.le_of_ble_eq_true rfl) rfl (m_X8_puts _ d m_6 (by first | omega | (subst_vars; simp only [putsN_T]; omega))) ?_
    rintro _ m_8 ⟨rfl, e_9⟩
    refine ok_aload_n F dX8_feed_36 0 rfl ?_
    refine ok_iload F dX8_feed_37 5 rfl ?_
    refine ok_callv F [pI e] dX8_feed_39 kM_X8_puts kI_X8_puts kV_X8_puts kL_X8_75 (ci := 8) rfl sh_0 rfl (by decide) (Nat.le_of_ble_eq_true rfl) rfl (m_X8_puts _ e m_8 (by first | omega | (subst_vars; simp only [putsN_T]; omega))) ?_
    rintro _ m_10 ⟨rfl, e_11⟩
    refine ok_aload_n F dX8_feed_42 0 rfl ?_
    refine ok_getf (v := m_10 0 7) F dX8_feed_43 kF_X8_71 sh_0 rfl rfl ?_
    refine ok_iret F G dX8_feed_46 ?_
    subst_vars
    exact ⟨by rw [if_neg (by omega)]; simp only [putsN_T]; congr 2; omega, by rw [if_neg (by omega)]; rfl⟩
  · refine ok_iconst F dX8_feed_13 ?_
    refine ok_iret F G dX8_feed_14 ?_
    exact ⟨by rw [if_pos (by omega)], by rw [if_pos (by omega)]⟩
theorem dX8_end_0 : decode cX8_end 0 = .ok (.iload_n 1, 1) := by decide +kernel
theorem dX8_end_1 : decode cX8_end 1 = .ok (.ifCond .lt 11, 3) := by decide +kernel
theorem dX8_end_4 : decode cX8_end 4 = .ok (.iload_n 1, 1) := by decide +kernel
theorem dX8_end_5 : decode cX8_end 5 = .ok (.aload_n 0, 1) := by decide +kernel
theorem dX8_end_6 : decode cX8_end 6 = .ok (.getfield 71, 3) := by decide +kernel
theorem dX8_end_9 : decode cX8_end 9 = .ok (.if_icmp .le 5, 3) := by decide +kernel
theorem dX8_end_12 : decode cX8_end 12 = .ok (.iconst (-1), 1) := by decide +kernel
theorem dX8_end_13 : decode cX8_end 13 = .ok (.ireturn, 1) := by decide +kernel
theorem dX8_end_14 : decode cX8_end 14 = .ok (.aload_n 0, 1) := by decide +kernel
theorem dX8_end_15 : decode cX8_end 15 = .ok (.iload_n 1, 1) := by decide +kernel
theorem dX8_end_16 : decode cX8_end 16 = .ok (.putfield 71, 3) := by decide +kernel
theorem dX8_end_19 : decode cX8_end 19 = .ok (.iload_n 1, 1) := by decide +kernel
theorem dX8_end_20 : decode cX8_end 20 = .ok (.ireturn, 1) := by decide +kernel
set_option maxHeartbeats 4000000 in
set_option maxRecDepth 100000 in
theorem m_X8_end (l : Launch) (n : Int) (mem : Mem) (hT : 0 ≤ mem 0 7 ∧ mem 0 7 ≤ 400) (hn : i32 n) : Ret shp l yX8_end cX8_end 2 (some .int) 0 [pR 0, pI n] mem (fun rv mv => rv = some (pI (if n < 0 ∨ mem 0 7 < n then -1 else n)) ∧ mv = if n < 0 ∨ mem 0 7 < n then mem else mset mem 0 7 n) := by
  refine ret_of (by decide +kernel) (Nat.le_of_ble_eq_true rfl) (fun X hX F G => ?_)
  show Ok shp X 2 0 [(0, pR 0), (1, pI n)] [] mem
  refine ok_iload_n F dX8_end_0 1 rfl ?_
  refine ok_if_lt F 12 dX8_end_1 (by decide) (by omega) (fun c_1 => ?_) (fun c_1 => ?_)
  · refine ok_iconst F dX8_end_12 ?_
    refine ok_iret F G dX8_end_13 ?_
    exact ⟨by rw [if_pos (by omega)], by rw [if_pos (by omega)]⟩
  · refine ok_iload_n F dX8_end_4 1 rfl ?_
    refine ok_aload_n F dX8_end_5 0 rfl ?_
    refine ok_getf (v := mem 0 7) F dX8_end_6 kF_X8_71 sh_0 rfl rfl ?_
    refine ok_icmp_le F 14 dX8_end_9 (by decide) (by omega) (by omega) (fun c_2 => ?_) (fun c_2 => ?_)
    · refine ok_aload_n F dX8_end_14 0 rfl ?_
      refine ok_iload_n F dX8_end_15 1 rfl ?_
      refine ok_putf F dX8_end_16 kF_X8_71 sh_0 rfl rfl rfl (fun m_3 e_4 => ?_)
      refine ok_iload_n F dX8_end_19 1 rfl ?_
      refine ok_iret F G dX8_end_20 ?_
      exact ⟨by rw [if_neg (by omega)], by rw [if_neg (by omega), e_4]⟩
    · refine ok_iconst F dX8_end_12 ?_
      refine ok_iret F G dX8_end_13 ?_
      exact ⟨by rw [if_pos (by omega)], by rw [if_pos (by omega)]⟩
theorem dX8_keepsPast_0 : decode cX8_keepsPast 0 = .ok (.aload_n 0, 1) := by decide +kernel
theorem dX8_keepsPast_1 : decode cX8_keepsPast 1 = .ok (.getfield 188, 3) := by decide +kernel
theorem dX8_keepsPast_4 : decode cX8_keepsPast 4 = .ok (.bipush 10, 2) := by decide +kernel
theorem dX8_keepsPast_6 : decode cX8_keepsPast 6 = .ok (.if_icmp .ne 46, 3) := by decide +kernel
theorem dX8_keepsPast_9 : decode cX8_keepsPast 9 = .ok (.sipush 459, 3) := by decide +kernel
theorem dX8_keepsPast_12 : decode cX8_keepsPast 12 = .ok (.istore_n 1, 1) := by decide +kernel
theorem dX8_keepsPast_13 : decode cX8_keepsPast 13 = .ok (.iload_n 1, 1) := by decide +kernel
theorem dX8_keepsPast_14 : decode cX8_keepsPast 14 = .ok (.sipush 4590, 3) := by decide +kernel
theorem dX8_keepsPast_17 : decode cX8_keepsPast 17 = .ok (.if_icmp .ge 25, 3) := by decide +kernel
theorem dX8_keepsPast_20 : decode cX8_keepsPast 20 = .ok (.aload_n 0, 1) := by decide +kernel
theorem dX8_keepsPast_21 : decode cX8_keepsPast 21 = .ok (.getfield 16, 3) := by decide +kernel
theorem dX8_keepsPast_24 : decode cX8_keepsPast 24 = .ok (.iload_n 1, 1) := by decide +kernel
theorem dX8_keepsPast_25 : decode cX8_keepsPast 25 = .ok (.sipush 459, 3) := by decide +kernel
theorem dX8_keepsPast_28 : decode cX8_keepsPast 28 = .ok (.isub, 1) := by decide +kernel
theorem dX8_keepsPast_29 : decode cX8_keepsPast 29 = .ok (.aload_n 0, 1) := by decide +kernel
theorem dX8_keepsPast_30 : decode cX8_keepsPast 30 = .ok (.getfield 16, 3) := by decide +kernel
theorem dX8_keepsPast_33 : decode cX8_keepsPast 33 = .ok (.iload_n 1, 1) := by decide +kernel
theorem dX8_keepsPast_34 : decode cX8_keepsPast 34 = .ok (.iaload, 1) := by decide +kernel
theorem dX8_keepsPast_35 : decode cX8_keepsPast 35 = .ok (.iastore, 1) := by decide +kernel
theorem dX8_keepsPast_36 : decode cX8_keepsPast 36 = .ok (.iinc 1 1, 3) := by decide +kernel
theorem dX8_keepsPast_39 : decode cX8_keepsPast 39 = .ok (.goto (-26), 3) := by decide +kernel
theorem dX8_keepsPast_42 : decode cX8_keepsPast 42 = .ok (.aload_n 0, 1) := by decide +kernel
theorem dX8_keepsPast_43 : decode cX8_keepsPast 43 = .ok (.dup, 1) := by decide +kernel
theorem dX8_keepsPast_44 : decode cX8_keepsPast 44 = .ok (.getfield 188, 3) := by decide +kernel
theorem dX8_keepsPast_47 : decode cX8_keepsPast 47 = .ok (.iconst 1, 1) := by decide +kernel
theorem dX8_keepsPast_48 : decode cX8_keepsPast 48 = .ok (.isub, 1) := by decide +kernel
theorem dX8_keepsPast_49 : decode cX8_keepsPast 49 = .ok (.putfield 188, 3) := by decide +kernel
theorem dX8_keepsPast_52 : decode cX8_keepsPast 52 = .ok (.aload_n 0, 1) := by decide +kernel
theorem dX8_keepsPast_53 : decode cX8_keepsPast 53 = .ok (.getfield 9, 3) := by decide +kernel
theorem dX8_keepsPast_56 : decode cX8_keepsPast 56 = .ok (.iconst 0, 1) := by decide +kernel
theorem dX8_keepsPast_57 : decode cX8_keepsPast 57 = .ok (.aload_n 0, 1) := by decide +kernel
theorem dX8_keepsPast_58 : decode cX8_keepsPast 58 = .ok (.getfield 16, 3) := by decide +kernel
theorem dX8_keepsPast_61 : decode cX8_keepsPast 61 = .ok (.sipush 459, 3) := by decide +kernel
theorem dX8_keepsPast_64 : decode cX8_keepsPast 64 = .ok (.aload_n 0, 1) := by decide +kernel
theorem dX8_keepsPast_65 : decode cX8_keepsPast 65 = .ok (.getfield 188, 3) := by decide +kernel
theorem dX8_keepsPast_68 : decode cX8_keepsPast 68 = .ok (.imul, 1) := by decide +kernel
theorem dX8_keepsPast_69 : decode cX8_keepsPast 69 = .ok (.invokestatic 184, 3) := by decide +kernel
theorem dX8_keepsPast_72 : decode cX8_keepsPast 72 = .ok (.aload_n 0, 1) := by decide +kernel
theorem dX8_keepsPast_73 : decode cX8_keepsPast 73 = .ok (.dup, 1) := by decide +kernel
theorem dX8_keepsPast_74 : decode cX8_keepsPast 74 = .ok (.getfield 188, 3) := by decide +kernel
theorem dX8_keepsPast_77 : decode cX8_keepsPast 77 = .ok (.iconst 1, 1) := by decide +kernel
theorem dX8_keepsPast_78 : decode cX8_keepsPast 78 = .ok (.iadd, 1) := by decide +kernel
theorem dX8_keepsPast_79 : decode cX8_keepsPast 79 = .ok (.putfield 188, 3) := by decide +kernel
theorem dX8_keepsPast_82 : decode cX8_keepsPast 82 = .ok (.return_, 1) := by decide +kernel
set_option maxHeartbeats 4000000 in
set_option maxRecDepth 100000 in
theorem m_X8_keepsPast (l : Launch) (mem : Mem) (hP : 0 ≤ mem 0 5 ∧ mem 0 5 ≤ 10) : Ret shp l yX8_keepsPast cX8_keepsPast 2 none 1 [pR 0] mem (fun rv mv => rv = none ∧ PastPush mem mv) := by
  refine ret_of (by decide +kernel) (Nat.le_of_ble_eq_true rfl) (fun X hX F G => ?_)
  show Ok shp X 2 0 [(0, pR 0)] [] mem
  refine ok_aload_n F dX8_keepsPast_0 0 rfl ?_
  refine ok_getf (v := mem 0 5) F dX8_keepsPast_1 kF_X8_188 sh_0 rfl rfl ?_
  refine ok_bipush F dX8_keepsPast_4 rfl ?_
  refine ok_icmp_ne F 52 dX8_keepsPast_6 (by decide) (by omega) (by omega) (fun c_1 => ?_) (fun c_1 => ?_)
  · refine ok_aload_n F dX8_keepsPast_52 0 rfl ?_
    refine ok_getr F dX8_keepsPast_53 kF_X8_9 sh_0 rfl ?_
    refine ok_iconst F dX8_keepsPast_56 ?_
    refine ok_aload_n F dX8_keepsPast_57 0 rfl ?_
    refine ok_getr F dX8_keepsPast_58 kF_X8_16 sh_0 rfl ?_
    refine ok_sipush F dX8_keepsPast_61 rfl ?_
    refine ok_aload_n F dX8_keepsPast_64 0 rfl ?_
    refine ok_getf (v := mem 0 5) F dX8_keepsPast_65 kF_X8_188 sh_0 rfl rfl ?_
    refine ok_imul F dX8_keepsPast_68 ?_
    refine ok_calls F [pR 1, pI 0, pR 3, pI (459 * (mem 0 5))] dX8_keepsPast_69 kM_X8_moves kS_X8_moves kL_X8_184 rfl (by decide) (Nat.le_of_ble_eq_true rfl) rfl (m_X8_moves _ 1 0 3 (459 * (mem 0 5)) mem (459) (4590) (sh_1) (sh_3) (by decide) (by decide) (by decide) (by omega) (by first | omega | (have h5 := congrFun (hm 0 (by decide)) 5; omega))) ?_
    rintro _ m_2 ⟨rfl, e_3⟩
    refine ok_aload_n F dX8_keepsPast_72 0 rfl ?_
    refine ok_dup F dX8_keepsPast_73 rfl ?_
    refine ok_getf (v := m_2 0 5) F dX8_keepsPast_74 kF_X8_188 sh_0 rfl rfl ?_
    refine ok_iconst F dX8_keepsPast_77 ?_
    refine ok_iadd F dX8_keepsPast_78 ?_
    refine ok_putf F dX8_keepsPast_79 kF_X8_188 sh_0 rfl rfl rfl (fun m_4 e_5 => ?_)
    refine ok_vret F G dX8_keepsPast_82 ?_
    refine ⟨rfl, ?_⟩
    first
      | exact pushFin (q := (mem 0 5).toNat) (s := 0) (z := 459 * mem 0 5) (w := mem 0 5 + 1) (fun _ _ _ => rfl) (fun _ _ => rfl) (fun _ _ _ _ => rfl) (by omega) (by omega) (by omega) (by omega) (by subst_vars; rfl)
      | (have h5 := congrFun (hm 0 (by decide)) 5; refine pushFin (q := 9) (s := 1) (z := 459 * (m 0 5 - 1)) (w := m 0 5 - 1 + 1) (m := mset m 0 5 (m 0 5 - 1)) (fun a h0 h3 => ?_) (fun j hj => ?_) (fun i b hi hb => ?_) (by omega) (by omega) (by omega) (by omega) (by subst_vars; rfl)
         · rw [← hm a h3]; funext b; exact mset_nk h0
         · rw [mset_ne (fun q => hj q.2), hm 0 (by decide)]
         · rw [mset_nk (by decide), hm3, if_pos (by omega)]; congr 1; omega)
  · refine ok_sipush F dX8_keepsPast_9 rfl ?_
    refine ok_istore_n (lv' := [(1, pI 459), (0, pR 0)]) F dX8_keepsPast_12 (by decide) rfl ?_
    have hL_13 : ∀ (n_13 : Nat) (k : Int) (m : Mem), (459 ≤ k ∧ k ≤ 4590 ∧ (∀ a, a ≠ 3 → m a = mem a) ∧ ∀ b : Nat, m 3 b = if (b : Int) < k - 459 then mem 3 (b + 459) else mem 3 b) → (4590 - k).toNat = n_13 → Ok shp X 2 13 [(0, pR 0), (1, pI k)] [] m := by
      intro n_13
      induction n_13 using Nat.strongRecOn with
      | _ n_13 ih_13 =>
        intro k m hI_13 hn_13
        obtain ⟨hk1, hk2, hm, hm3⟩ := hI_13
        refine ok_iload_n F dX8_keepsPast_13 1 rfl ?_
        refine ok_sipush F dX8_keepsPast_14 rfl ?_
        refine ok_icmp_ge F 42 dX8_keepsPast_17 (by decide) (by omega) (by omega) (fun c_6 => ?_) (fun c_6 => ?_)
        · refine ok_aload_n F dX8_keepsPast_42 0 rfl ?_
          refine ok_dup F dX8_keepsPast_43 rfl ?_
          refine ok_getf (v := m 0 5) F dX8_keepsPast_44 kF_X8_188 sh_0 rfl rfl ?_
          refine ok_iconst F dX8_keepsPast_47 ?_
          refine ok_isub F dX8_keepsPast_48 ?_
          refine ok_putf F dX8_keepsPast_49 kF_X8_188 sh_0 rfl rfl rfl (fun m_7 e_8 => ?_)
          refine ok_aload_n F dX8_keepsPast_52 0 rfl ?_
          refine ok_getr F dX8_keepsPast_53 kF_X8_9 sh_0 rfl ?_
          refine ok_iconst F dX8_keepsPast_56 ?_
          refine ok_aload_n F dX8_keepsPast_57 0 rfl ?_
          refine ok_getr F dX8_keepsPast_58 kF_X8_16 sh_0 rfl ?_
          refine ok_sipush F dX8_keepsPast_61 rfl ?_
          refine ok_aload_n F dX8_keepsPast_64 0 rfl ?_
          refine ok_getf (v := ((m 0 5) - 1)) F dX8_keepsPast_65 kF_X8_188 sh_0 rfl (by rw [e_8]; exact mset_eq _ _ _ _) ?_
          refine ok_imul F dX8_keepsPast_68 ?_
          refine ok_calls F [pR 1, pI 0, pR 3, pI (459 * ((m 0 5) - 1))] dX8_keepsPast_69 kM_X8_moves kS_X8_moves kL_X8_184 rfl (by decide) (Nat.le_of_ble_eq_true rfl) rfl (m_X8_moves _ 1 0 3 (459 * ((m 0 5) - 1)) m_7 (459) (4590) (sh_1) (sh_3) (by decide) (by decide) (by decide) (by omega) (by first | omega | (have h5 := congrFun (hm 0 (by decide)) 5; omega))) ?_
          rintro _ m_9 ⟨rfl, e_10⟩
          refine ok_aload_n F dX8_keepsPast_72 0 rfl ?_
          refine ok_dup F dX8_keepsPast_73 rfl ?_
          refine ok_getf (v := m_9 0 5) F dX8_keepsPast_74 kF_X8_188 sh_0 rfl rfl ?_
          refine ok_iconst F dX8_keepsPast_77 ?_
          refine ok_iadd F dX8_keepsPast_78 ?_
          refine ok_putf F dX8_keepsPast_79 kF_X8_188 sh_0 rfl rfl rfl (fun m_11 e_12 => ?_)
          refine ok_vret F G dX8_keepsPast_82 ?_
          refine ⟨rfl, ?_⟩
          first
            | exact pushFin (q := (mem 0 5).toNat) (s := 0) (z := 459 * mem 0 5) (w := mem 0 5 + 1) (fun _ _ _ => rfl) (fun _ _ => rfl) (fun _ _ _ _ => rfl) (by omega) (by omega) (by omega) (by omega) (by subst_vars; rfl)
            | (have h5 := congrFun (hm 0 (by decide)) 5; refine pushFin (q := 9) (s := 1) (z := 459 * (m 0 5 - 1)) (w := m 0 5 - 1 + 1) (m := mset m 0 5 (m 0 5 - 1)) (fun a h0 h3 => ?_) (fun j hj => ?_) (fun i b hi hb => ?_) (by omega) (by omega) (by omega) (by omega) (by subst_vars; rfl)
               · rw [← hm a h3]; funext b; exact mset_nk h0
               · rw [mset_ne (fun q => hj q.2), hm 0 (by decide)]
               · rw [mset_nk (by decide), hm3, if_pos (by omega)]; congr 1; omega)
        · refine ok_aload_n F dX8_keepsPast_20 0 rfl ?_
          refine ok_getr F dX8_keepsPast_21 kF_X8_16 sh_0 rfl ?_
          refine ok_iload_n F dX8_keepsPast_24 1 rfl ?_
          refine ok_sipush F dX8_keepsPast_25 rfl ?_
          refine ok_isub F dX8_keepsPast_28 ?_
          refine ok_aload_n F dX8_keepsPast_29 0 rfl ?_
          refine ok_getr F dX8_keepsPast_30 kF_X8_16 sh_0 rfl ?_
          refine ok_iload_n F dX8_keepsPast_33 1 rfl ?_
          refine ok_iald (v := m 3 k.toNat) F dX8_keepsPast_34 sh_3 (by first | decide | assumption) (by omega) (by omega) rfl ?_
          refine ok_iast F dX8_keepsPast_35 sh_3 (by first | decide | assumption) (by omega) (by omega) (fun m_13 e_14 => ?_)
          refine ok_iinc (lv' := [(1, pI (k + 1)), (0, pR 0)]) F dX8_keepsPast_36 1 rfl (by decide) rfl ?_
          refine ok_goto F 13 dX8_keepsPast_39 (by decide) ?_
          refine ok_lvp [1, 0] (lv' := [(0, pR 0), (1, pI (k + 1))]) rfl ?_
          refine ih_13 _ ?_ (k + 1) m_13 ?_ rfl
          · omega
          · refine ⟨by omega, by omega, fun a ha => ?_, fun b => ?_⟩
            · rw [e_14, ← hm a ha]; funext b; exact mset_nk ha
            · rw [e_14]
              by_cases hb : b = (k - 459).toNat
              · subst hb; rw [mset_eq, if_pos (by omega), hm3, if_neg (by omega)]; congr 1; omega
              · rw [mset_ne (fun q => hb q.2), hm3]; by_cases hb2 : (b : Int) < k - 459
                · rw [if_pos hb2, if_pos (by omega)]
                · rw [if_neg hb2, if_neg (by omega)]
    refine ok_lvp [1, 0] (lv' := [(0, pR 0), (1, pI 459)]) rfl ?_
    refine hL_13 _ 459 mem ?_ rfl
    exact ⟨by omega, by omega, fun _ _ => rfl, fun b => (if_neg (by omega)).symm⟩
