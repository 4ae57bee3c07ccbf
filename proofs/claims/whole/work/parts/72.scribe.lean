/-! the class: the letter -/
def wc1 (mem : Mem) (c : Int) : Mem := mset (if mem 209 0 = mem 209 2 then mset mem 209 1 c else mem) 209 0 (mem 209 0 + 1)
def wcM : List Int → Mem → Mem
  | [], m => m
  | c :: L, m => wcM L (wc1 m c)
theorem wcM_c (c : Int) (L : List Int) (m : Mem) : wcM (c :: L) m = wcM L (wc1 m c) := rfl
theorem wcM_app : ∀ (A B : List Int) (m : Mem), wcM (A ++ B) m = wcM B (wcM A m)
  | [], _, _ => rfl
  | c :: A, B, m => by
    show wcM (A ++ B) (wc1 m c) = wcM B (wcM A (wc1 m c))
    exact wcM_app A B (wc1 m c)
theorem wc1_at (m : Mem) (c : Int) : wc1 m c 209 0 = m 209 0 + 1 ∧ (∀ j, j ≠ 0 → j ≠ 1 → wc1 m c 209 j = m 209 j) ∧ ∀ a, a ≠ 209 → wc1 m c a = m a := by
  unfold wc1
  refine ⟨mset_eq _ _ _ _, fun j h h2 => ?_, fun a h => ?_⟩
  · rw [mset_ne (fun q => h q.2)]
    by_cases g : m 209 0 = m 209 2
    · rw [if_pos g, mset_ne (fun q => h2 q.2)]
    · rw [if_neg g]
  · rw [mset_nka h]
    by_cases g : m 209 0 = m 209 2
    · rw [if_pos g, mset_nka h]
    · rw [if_neg g]
theorem wcM_at : ∀ (L : List Int) (m : Mem), wcM L m 209 0 = m 209 0 + (L.length : Int) ∧ (∀ j, j ≠ 0 → j ≠ 1 → wcM L m 209 j = m 209 j) ∧ ∀ a, a ≠ 209 → wcM L m a = m a
  | [], m => ⟨(Int.add_zero _).symm, fun _ _ _ => rfl, fun _ _ => rfl⟩
  | c :: L, m => by
    obtain ⟨a1, a2, a3⟩ := wcM_at L (wc1 m c)
    obtain ⟨b1, b2, b3⟩ := wc1_at m c
    refine ⟨?_, fun j h h2 => ?_, fun a h => ?_⟩
    · rw [wcM_c, a1, b1, List.length_cons]; omega
    · rw [wcM_c, a2 j h h2, b2 j h h2]
    · rw [wcM_c, a3 a h, b3 a h]
theorem wcM_found : ∀ (L : List Int) (m : Mem) (k : Int), m 209 2 = k → wcM L m 209 1 = if m 209 0 ≤ k ∧ k < m 209 0 + (L.length : Int) then L.getD (k - m 209 0).toNat 0 else m 209 1
  | [], m, k, h => by
    rw [if_neg (by rw [List.length_nil]; omega)]
    rfl
  | c :: L, m, k, h => by
    obtain ⟨a1, a2, _⟩ := wc1_at m c
    have r := wcM_found L (wc1 m c) k (by rw [a2 2 (by decide) (by decide)]; exact h)
    rw [wcM_c, r, a1, List.length_cons]
    have e33 : wc1 m c 209 1 = if m 209 0 = m 209 2 then c else m 209 1 := by
      unfold wc1
      rw [mset_ne (by decide)]
      by_cases g : m 209 0 = m 209 2
      · rw [if_pos g, if_pos g, mset_eq]
      · rw [if_neg g, if_neg g]
    by_cases g : m 209 0 + 1 ≤ k ∧ k < m 209 0 + 1 + (L.length : Int)
    · rw [if_pos g, if_pos (by omega), show (k - m 209 0).toNat = (k - (m 209 0 + 1)).toNat + 1 by omega]
      rfl
    · rw [if_neg g, e33]
      by_cases y : m 209 0 = m 209 2
      · rw [if_pos y, if_pos (by omega), show (k - m 209 0).toNat = 0 by omega]
        rfl
      · rw [if_neg y, if_neg (by omega)]
theorem wcE {m mv : Mem} {L : List Int} (h : mv = wcM L m) : mv 209 0 = m 209 0 + (L.length : Int) ∧ mv 209 2 = m 209 2 ∧ ∀ a, a ≠ 209 → mv a = m a := by
  subst h
  obtain ⟨a1, a2, a3⟩ := wcM_at L m
  exact ⟨a1, a2 2 (by decide) (by decide), a3⟩
theorem wd1E {m mv : Mem} {c : Int} (h : mv = wc1 m c) : mv 209 0 = m 209 0 + 1 ∧ mv 209 2 = m 209 2 ∧ ∀ a, a ≠ 209 → mv a = m a := by
  subst h
  obtain ⟨a1, a2, a3⟩ := wc1_at m c
  exact ⟨a1, a2 2 (by decide) (by decide), a3⟩
theorem digN_f1 {v : Int} (h : 0 ≤ v ∧ v ≤ 9) : digN 1 v = digN 0 v := by
  rw [digN_s, if_neg (by omega)]; rfl
theorem digN_f2 {v : Int} (h : 0 ≤ v ∧ v ≤ 99) : digN 2 v = digN 1 v := by
  have q := Int.tdiv_eq_ediv_of_nonneg (a := v) (b := 10) h.1
  rw [digN_s 1 v, digN_s 0 v, digN_f1 (v := v.tdiv 10) (by omega)]
theorem digN_f3 {v : Int} (h : 0 ≤ v ∧ v ≤ 999) : digN 3 v = digN 2 v := by
  have q := Int.tdiv_eq_ediv_of_nonneg (a := v) (b := 10) h.1
  rw [digN_s 2 v, digN_s 1 v, digN_f2 (v := v.tdiv 10) (by omega)]
theorem digN_rec {v : Int} (h : 0 ≤ v ∧ v ≤ 9999) : digN 3 v = (if 9 < v then digN 3 (v.tdiv 10) else []) ++ [48 + v.tmod 10] := by
  have q := Int.tdiv_eq_ediv_of_nonneg (a := v) (b := 10) h.1
  rw [digN_s]
  by_cases g : 9 < v
  · rw [if_pos g, if_pos g, digN_f3 (v := v.tdiv 10) (by omega)]
  · rw [if_neg g, if_neg g]; rfl
/-- what of a number is written ahead of a unit -/
def preU (v u : Int) : List Int := if u = 0 then digN 3 v else if 10 * u ≤ v then digN 3 (v.tdiv (10 * u)) else []
theorem preU_at (v : Int) (h : 0 ≤ v ∧ v ≤ 9999) : preU v 1000 = [] ∧ (∀ u, u = 1000 ∨ u = 100 ∨ u = 10 ∨ u = 1 → (u ≤ v ∨ u = 1) → preU v (u.tdiv 10) = preU v u ++ [48 + (v.tdiv u).tmod 10]) ∧ ∀ u, u = 1000 ∨ u = 100 ∨ u = 10 → v < u → preU v (u.tdiv 10) = preU v u := by
  have q1 := Int.tdiv_eq_ediv_of_nonneg (a := v) (b := 10) h.1
  have q2 := Int.tdiv_eq_ediv_of_nonneg (a := v) (b := 100) h.1
  have q3 := Int.tdiv_eq_ediv_of_nonneg (a := v) (b := 1000) h.1
  have w1 := Int.tdiv_eq_ediv_of_nonneg (a := v.tdiv 10) (b := 10) (by omega)
  have w2 := Int.tdiv_eq_ediv_of_nonneg (a := v.tdiv 100) (b := 10) (by omega)
  have q0 : v.tdiv 1 = v := Int.tdiv_one v
  have r3 := digN_rec (v := v.tdiv 1000) (by omega)
  have r2 := digN_rec (v := v.tdiv 100) (by omega)
  have r1 := digN_rec (v := v.tdiv 10) (by omega)
  have r0 := digN_rec h
  have e2 : (v.tdiv 100).tdiv 10 = v.tdiv 1000 := by omega
  have e1 : (v.tdiv 10).tdiv 10 = v.tdiv 100 := by omega
  rw [if_neg (by omega), List.nil_append] at r3
  rw [e2] at r2
  rw [e1] at r1
  unfold preU
  refine ⟨by rw [if_neg (by omega), if_neg (by omega)], fun u hu hv => ?_, fun u hu hv => ?_⟩
  · rcases hu with rfl | rfl | rfl | rfl
    · rw [show (1000 : Int).tdiv 10 = 100 from rfl, if_neg (by omega), if_pos (by omega), if_neg (by omega), if_neg (by omega), List.nil_append]
      exact r3
    · rw [show (100 : Int).tdiv 10 = 10 from rfl, if_neg (by omega), if_pos (by omega), if_neg (by omega), show (10 : Int) * 10 = 100 from rfl, show (10 : Int) * 100 = 1000 from rfl, r2]
      by_cases g : 1000 ≤ v
      · rw [if_pos g, if_pos (by omega)]
      · rw [if_neg g, if_neg (by omega)]
    · rw [show (10 : Int).tdiv 10 = 1 from rfl, if_neg (by omega), if_pos (by omega), if_neg (by omega), show (10 : Int) * 1 = 10 from rfl, show (10 : Int) * 10 = 100 from rfl, r1]
      by_cases g : 100 ≤ v
      · rw [if_pos g, if_pos (by omega)]
      · rw [if_neg g, if_neg (by omega)]
    · rw [show (1 : Int).tdiv 10 = 0 from rfl, if_pos rfl, if_neg (by omega), show (10 : Int) * 1 = 10 from rfl, q0, r0]
      by_cases g : 10 ≤ v
      · rw [if_pos g, if_pos (by omega)]
      · rw [if_neg g, if_neg (by omega)]
  · rcases hu with rfl | rfl | rfl
    · rw [show (1000 : Int).tdiv 10 = 100 from rfl, if_neg (by omega), if_neg (by omega), if_neg (by omega), if_neg (by omega)]
    · rw [show (100 : Int).tdiv 10 = 10 from rfl, if_neg (by omega), if_neg (by omega), if_neg (by omega), if_neg (by omega)]
    · rw [show (10 : Int).tdiv 10 = 1 from rfl, if_neg (by omega), if_neg (by omega), if_neg (by omega), if_neg (by omega)]
theorem dX5_writeByte_0 : decode cX5_writeByte 0 = .ok (.aload_n 0, 1) := by decide +kernel
theorem dX5_writeByte_1 : decode cX5_writeByte 1 = .ok (.getfield 7, 3) := by decide +kernel
theorem dX5_writeByte_4 : decode cX5_writeByte 4 = .ok (.aload_n 0, 1) := by decide +kernel
theorem dX5_writeByte_5 : decode cX5_writeByte 5 = .ok (.getfield 16, 3) := by decide +kernel
theorem dX5_writeByte_8 : decode cX5_writeByte 8 = .ok (.if_icmp .ne 8, 3) := by decide +kernel
theorem dX5_writeByte_11 : decode cX5_writeByte 11 = .ok (.aload_n 0, 1) := by decide +kernel
theorem dX5_writeByte_12 : decode cX5_writeByte 12 = .ok (.iload_n 1, 1) := by decide +kernel
theorem dX5_writeByte_13 : decode cX5_writeByte 13 = .ok (.putfield 13, 3) := by decide +kernel
theorem dX5_writeByte_16 : decode cX5_writeByte 16 = .ok (.aload_n 0, 1) := by decide +kernel
theorem dX5_writeByte_17 : decode cX5_writeByte 17 = .ok (.dup, 1) := by decide +kernel
theorem dX5_writeByte_18 : decode cX5_writeByte 18 = .ok (.getfield 7, 3) := by decide +kernel
theorem dX5_writeByte_21 : decode cX5_writeByte 21 = .ok (.iconst 1, 1) := by decide +kernel
theorem dX5_writeByte_22 : decode cX5_writeByte 22 = .ok (.iadd, 1) := by decide +kernel
theorem dX5_writeByte_23 : decode cX5_writeByte 23 = .ok (.putfield 7, 3) := by decide +kernel
theorem dX5_writeByte_26 : decode cX5_writeByte 26 = .ok (.return_, 1) := by decide +kernel
set_option maxHeartbeats 4000000 in
set_option maxRecDepth 100000 in
theorem m_X5_writeByte (l : Launch) (c : Int) (mem : Mem) (hW : i32 (mem 209 0)) (hK : i32 (mem 209 2)) : Ret shp l yX5_writeByte cX5_writeByte 2 none 0 [pR 209, pI c] mem (fun rv mv => rv = none ∧ mv = wc1 mem c) := by
  refine ret_of (by decide +kernel) (Nat.le_of_ble_eq_true rfl) (fun X hX F G => ?_)
  show Ok shp X 2 0 [(0, pR 209), (1, pI c)] [] mem
  refine ok_aload_n F dX5_writeByte_0 0 rfl ?_
  refine ok_getf (v := mem 209 0) F dX5_writeByte_1 kF_X5_7 sh_209 rfl rfl ?_
  refine ok_aload_n F dX5_writeByte_4 0 rfl ?_
  refine ok_getf (v := mem 209 2) F dX5_writeByte_5 kF_X5_16 sh_209 rfl rfl ?_
  refine ok_icmp_ne F 16 dX5_writeByte_8 (by decide) (by omega) (by omega) (fun c_1 => ?_) (fun c_1 => ?_)
  · refine ok_aload_n F dX5_writeByte_16 0 rfl ?_
    refine ok_dup F dX5_writeByte_17 rfl ?_
    refine ok_getf (v := mem 209 0) F dX5_writeByte_18 kF_X5_7 sh_209 rfl rfl ?_
    refine ok_iconst F dX5_writeByte_21 ?_
    refine ok_iadd F dX5_writeByte_22 ?_
    refine ok_putf F dX5_writeByte_23 kF_X5_7 sh_209 rfl rfl rfl (fun m_2 e_3 => ?_)
    refine ok_vret F G dX5_writeByte_26 ?_
    refine ⟨rfl, ?_⟩
    unfold wc1
    first
      | (rw [if_neg (by omega)]; exact e_3)
      | (rw [if_pos (by omega), e_3]; done)
  · refine ok_aload_n F dX5_writeByte_11 0 rfl ?_
    refine ok_iload_n F dX5_writeByte_12 1 rfl ?_
    refine ok_putf F dX5_writeByte_13 kF_X5_13 sh_209 rfl rfl rfl (fun m_4 e_5 => ?_)
    refine ok_aload_n F dX5_writeByte_16 0 rfl ?_
    refine ok_dup F dX5_writeByte_17 rfl ?_
    refine ok_getf (v := mem 209 0) F dX5_writeByte_18 kF_X5_7 sh_209 rfl (by rw [e_5, mset_ne (by decide)] <;> rfl) ?_
    refine ok_iconst F dX5_writeByte_21 ?_
    refine ok_iadd F dX5_writeByte_22 ?_
    refine ok_putf F dX5_writeByte_23 kF_X5_7 sh_209 rfl rfl rfl (fun m_6 e_7 => ?_)
    refine ok_vret F G dX5_writeByte_26 ?_
    refine ⟨rfl, ?_⟩
    unfold wc1
    first
      | (rw [if_neg (by omega)]; exact e_7)
      | (rw [if_pos (by omega), e_7, e_5]; done)
theorem dX5_writeText_0 : decode cX5_writeText 0 = .ok (.iconst 0, 1) := by decide +kernel
theorem dX5_writeText_1 : decode cX5_writeText 1 = .ok (.istore_n 2, 1) := by decide +kernel
theorem dX5_writeText_2 : decode cX5_writeText 2 = .ok (.iload_n 2, 1) := by decide +kernel
theorem dX5_writeText_3 : decode cX5_writeText 3 = .ok (.aload_n 1, 1) := by decide +kernel
theorem dX5_writeText_4 : decode cX5_writeText 4 = .ok (.invokevirtual 73, 3) := by decide +kernel
theorem dX5_writeText_7 : decode cX5_writeText 7 = .ok (.if_icmp .ge 18, 3) := by decide +kernel
theorem dX5_writeText_10 : decode cX5_writeText 10 = .ok (.aload_n 0, 1) := by decide +kernel
theorem dX5_writeText_11 : decode cX5_writeText 11 = .ok (.aload_n 1, 1) := by decide +kernel
theorem dX5_writeText_12 : decode cX5_writeText 12 = .ok (.iload_n 2, 1) := by decide +kernel
theorem dX5_writeText_13 : decode cX5_writeText 13 = .ok (.invokevirtual 79, 3) := by decide +kernel
theorem dX5_writeText_16 : decode cX5_writeText 16 = .ok (.invokevirtual 83, 3) := by decide +kernel
theorem dX5_writeText_19 : decode cX5_writeText 19 = .ok (.iinc 2 1, 3) := by decide +kernel
theorem dX5_writeText_22 : decode cX5_writeText 22 = .ok (.goto (-20), 3) := by decide +kernel
theorem dX5_writeText_25 : decode cX5_writeText 25 = .ok (.return_, 1) := by decide +kernel
set_option maxHeartbeats 4000000 in
set_option maxRecDepth 100000 in
theorem m_X5_writeText (l : Launch) (w : Nat) (mem : Mem) (hw : w < 13) (hW : 0 ≤ mem 209 0 ∧ mem 209 0 ≤ 2000000000) (hK : i32 (mem 209 2)) : Ret shp l yX5_writeText cX5_writeText 3 none 4 [pR 209, pR (1000 + w)] mem (fun rv mv => rv = none ∧ mv = wcM (strT w) mem) := by
  refine ret_of (by decide +kernel) (Nat.le_of_ble_eq_true rfl) (fun X hX F G => ?_)
  show Ok shp X 3 0 [(0, pR 209), (1, pR (1000 + w))] [] mem
  have hlen := sLen_bd hw
  refine ok_iconst F dX5_writeText_0 ?_
  refine ok_istore_n (lv' := [(2, pI 0), (0, pR 209), (1, pR (1000 + w))]) F dX5_writeText_1 (by decide) rfl ?_
  have hL_2 : ∀ (n_2 : Nat) (k : Int) (m : Mem), (0 ≤ k ∧ k ≤ ((sLen.getD w 0 : Nat) : Int) ∧ m = wcM (catN (strG w) k.toNat) mem) → (10 - k).toNat = n_2 → Ok shp X 3 2 [(0, pR 209), (1, pR (1000 + w)), (2, pI k)] [] m := by
    intro n_2
    induction n_2 using Nat.strongRecOn with
    | _ n_2 ih_2 =>
      intro k m hI_2 hn_2
      obtain ⟨hk0, hk1, hE⟩ := hI_2
      obtain ⟨x1, x4, x3⟩ := wcE hE
      have xl := catN_len (g := strG w) (B := 1) k.toNat (fun _ _ => Nat.le_refl _)
      refine ok_iload_n F dX5_writeText_2 2 rfl ?_
      refine ok_aload_n F dX5_writeText_3 1 rfl ?_
      refine ok_callt (i := w) F [] dX5_writeText_4 kM_J0_length_8abf5 kI_J0_length_8abf5 kV_J0_length_8abf5 kL_X5_73 rfl hw rfl (by decide) (Nat.le_of_ble_eq_true rfl) rfl (m_J0_length _ w m hw) ?_
      rintro _ _ ⟨rfl, rfl⟩
      refine ok_icmp_ge F 25 dX5_writeText_7 (by decide) (by omega) (by omega) (fun c_1 => ?_) (fun c_1 => ?_)
      · refine ok_vret F G dX5_writeText_25 ?_
        refine ⟨rfl, ?_⟩
        rw [hE, show k.toNat = sLen.getD w 0 by omega]
        rfl
      · refine ok_aload_n F dX5_writeText_10 0 rfl ?_
        refine ok_aload_n F dX5_writeText_11 1 rfl ?_
        refine ok_iload_n F dX5_writeText_12 2 rfl ?_
        refine ok_callt (i := w) F [pI k] dX5_writeText_13 kM_J0_charAt_5068e kI_J0_charAt_5068e kV_J0_charAt_5068e kL_X5_79 rfl hw rfl (by decide) (Nat.le_of_ble_eq_true rfl) rfl (m_J0_charAt _ w k m hw (by omega)) ?_
        rintro _ _ ⟨rfl, rfl⟩
        refine ok_callv F [pI ((sTx w).getD k.toNat 0 : Nat)] dX5_writeText_16 kM_X5_writeByte kI_X5_writeByte kV_X5_writeByte kL_X5_83 (ci := 5) rfl sh_209 rfl (by decide) (Nat.le_of_ble_eq_true rfl) rfl (m_X5_writeByte _ ((sTx w).getD k.toNat 0 : Nat) m (by omega) (by omega)) ?_
        rintro _ m_2 ⟨rfl, e_3⟩
        have eW := e_3
        refine ok_iinc (lv' := [(2, pI (k + 1)), (0, pR 209), (1, pR (1000 + w))]) F dX5_writeText_19 2 rfl (by decide) rfl ?_
        refine ok_goto F 2 dX5_writeText_22 (by decide) ?_
        refine ok_lvp [1, 2, 0] (lv' := [(0, pR 209), (1, pR (1000 + w)), (2, pI (k + 1))]) rfl ?_
        refine ih_2 _ ?_ (k + 1) m_2 ?_ rfl
        · omega
        · refine ⟨by omega, by omega, ?_⟩
          rw [eW, hE, show (k + 1).toNat = k.toNat + 1 by omega, catN_s, wcM_app]
          rfl
  refine ok_lvp [1, 2, 0] (lv' := [(0, pR 209), (1, pR (1000 + w)), (2, pI 0)]) rfl ?_
  refine hL_2 _ 0 mem ?_ rfl
  exact ⟨by omega, by omega, rfl⟩
theorem dX5_writeNumber_0 : decode cX5_writeNumber 0 = .ok (.sipush 1000, 3) := by decide +kernel
theorem dX5_writeNumber_3 : decode cX5_writeNumber 3 = .ok (.istore_n 2, 1) := by decide +kernel
theorem dX5_writeNumber_4 : decode cX5_writeNumber 4 = .ok (.iload_n 2, 1) := by decide +kernel
theorem dX5_writeNumber_5 : decode cX5_writeNumber 5 = .ok (.ifCond .le 34, 3) := by decide +kernel
theorem dX5_writeNumber_8 : decode cX5_writeNumber 8 = .ok (.iload_n 1, 1) := by decide +kernel
theorem dX5_writeNumber_9 : decode cX5_writeNumber 9 = .ok (.iload_n 2, 1) := by decide +kernel
theorem dX5_writeNumber_10 : decode cX5_writeNumber 10 = .ok (.if_icmp .ge 8, 3) := by decide +kernel
theorem dX5_writeNumber_13 : decode cX5_writeNumber 13 = .ok (.iload_n 2, 1) := by decide +kernel
theorem dX5_writeNumber_14 : decode cX5_writeNumber 14 = .ok (.iconst 1, 1) := by decide +kernel
theorem dX5_writeNumber_15 : decode cX5_writeNumber 15 = .ok (.if_icmp .ne 16, 3) := by decide +kernel
theorem dX5_writeNumber_18 : decode cX5_writeNumber 18 = .ok (.aload_n 0, 1) := by decide +kernel
theorem dX5_writeNumber_19 : decode cX5_writeNumber 19 = .ok (.bipush 48, 2) := by decide +kernel
theorem dX5_writeNumber_21 : decode cX5_writeNumber 21 = .ok (.iload_n 1, 1) := by decide +kernel
theorem dX5_writeNumber_22 : decode cX5_writeNumber 22 = .ok (.iload_n 2, 1) := by decide +kernel
theorem dX5_writeNumber_23 : decode cX5_writeNumber 23 = .ok (.idiv, 1) := by decide +kernel
theorem dX5_writeNumber_24 : decode cX5_writeNumber 24 = .ok (.bipush 10, 2) := by decide +kernel
theorem dX5_writeNumber_26 : decode cX5_writeNumber 26 = .ok (.irem, 1) := by decide +kernel
theorem dX5_writeNumber_27 : decode cX5_writeNumber 27 = .ok (.iadd, 1) := by decide +kernel
theorem dX5_writeNumber_28 : decode cX5_writeNumber 28 = .ok (.invokevirtual 83, 3) := by decide +kernel
theorem dX5_writeNumber_31 : decode cX5_writeNumber 31 = .ok (.iload_n 2, 1) := by decide +kernel
theorem dX5_writeNumber_32 : decode cX5_writeNumber 32 = .ok (.bipush 10, 2) := by decide +kernel
theorem dX5_writeNumber_34 : decode cX5_writeNumber 34 = .ok (.idiv, 1) := by decide +kernel
theorem dX5_writeNumber_35 : decode cX5_writeNumber 35 = .ok (.istore_n 2, 1) := by decide +kernel
theorem dX5_writeNumber_36 : decode cX5_writeNumber 36 = .ok (.goto (-32), 3) := by decide +kernel
theorem dX5_writeNumber_39 : decode cX5_writeNumber 39 = .ok (.return_, 1) := by decide +kernel
set_option maxHeartbeats 4000000 in
set_option maxRecDepth 100000 in
theorem m_X5_writeNumber (l : Launch) (v : Int) (mem : Mem) (hv : 0 ≤ v ∧ v ≤ 9999) (hW : 0 ≤ mem 209 0 ∧ mem 209 0 ≤ 1900000000) (hK : i32 (mem 209 2)) : Ret shp l yX5_writeNumber cX5_writeNumber 3 none 1 [pR 209, pI v] mem (fun rv mv => rv = none ∧ mv = wcM (digN 3 v) mem) := by
  refine ret_of (by decide +kernel) (Nat.le_of_ble_eq_true rfl) (fun X hX F G => ?_)
  show Ok shp X 3 0 [(0, pR 209), (1, pI v)] [] mem
  obtain ⟨p1, p2, p3⟩ := preU_at v hv
  refine ok_sipush F dX5_writeNumber_0 rfl ?_
  refine ok_istore_n (lv' := [(2, pI 1000), (0, pR 209), (1, pI v)]) F dX5_writeNumber_3 (by decide) rfl ?_
  have hL_4 : ∀ (n_4 : Nat) (u : Int) (m : Mem), ((u = 1000 ∨ u = 100 ∨ u = 10 ∨ u = 1 ∨ u = 0) ∧ m = wcM (preU v u) mem) → u.toNat = n_4 → Ok shp X 3 4 [(0, pR 209), (1, pI v), (2, pI u)] [] m := by
    intro n_4
    induction n_4 using Nat.strongRecOn with
    | _ n_4 ih_4 =>
      intro u m hI_4 hn_4
      obtain ⟨hu, hE⟩ := hI_4
      obtain ⟨x1, x4, x3⟩ := wcE hE
      have hud := Int.tdiv_eq_ediv_of_nonneg (a := u) (b := 10) (by omega)
      have hpl : (preU v u).length ≤ 4 := by
        unfold preU
        split
        · exact digN_len 3 v
        · split
          · exact digN_len 3 _
          · exact Nat.zero_le _
      refine ok_iload_n F dX5_writeNumber_4 2 rfl ?_
      refine ok_if_le F 39 dX5_writeNumber_5 (by decide) (by omega) (fun c_1 => ?_) (fun c_1 => ?_)
      · refine ok_vret F G dX5_writeNumber_39 ?_
        refine ⟨rfl, ?_⟩
        rw [hE, show u = 0 by omega]
        rfl
      · refine ok_iload_n F dX5_writeNumber_8 1 rfl ?_
        refine ok_iload_n F dX5_writeNumber_9 2 rfl ?_
        refine ok_icmp_ge F 18 dX5_writeNumber_10 (by decide) (by omega) (by omega) (fun c_2 => ?_) (fun c_2 => ?_)
        · have hv3 := Int.tdiv_eq_ediv_of_nonneg (a := v) (b := u) (by omega)
          have hv1 : 0 ≤ v / u := Int.ediv_nonneg (by omega) (by omega)
          have hv2 : v / u ≤ v := Int.ediv_le_self u hv.1
          refine ok_aload_n F dX5_writeNumber_18 0 rfl ?_
          refine ok_bipush F dX5_writeNumber_19 rfl ?_
          refine ok_iload_n F dX5_writeNumber_21 1 rfl ?_
          refine ok_iload_n F dX5_writeNumber_22 2 rfl ?_
          refine ok_idiv F dX5_writeNumber_23 (by omega) (by omega) (by omega) ?_
          refine ok_bipush F dX5_writeNumber_24 rfl ?_
          refine ok_irem F dX5_writeNumber_26 (by omega) (by omega) (by omega) ?_
          refine ok_iadd F dX5_writeNumber_27 ?_
          refine ok_callv F [pI (48 + ((v.tdiv u).tmod 10))] dX5_writeNumber_28 kM_X5_writeByte kI_X5_writeByte kV_X5_writeByte kL_X5_83 (ci := 5) rfl sh_209 rfl (by decide) (Nat.le_of_ble_eq_true rfl) rfl (m_X5_writeByte _ (48 + ((v.tdiv u).tmod 10)) m (by omega) (by omega)) ?_
          rintro _ m_3 ⟨rfl, e_4⟩
          have eW := e_4
          refine ok_iload_n F dX5_writeNumber_31 2 rfl ?_
          refine ok_bipush F dX5_writeNumber_32 rfl ?_
          refine ok_idiv F dX5_writeNumber_34 (by omega) (by omega) (by omega) ?_
          refine ok_istore_n (lv' := [(2, pI (u.tdiv 10)), (0, pR 209), (1, pI v)]) F dX5_writeNumber_35 (by decide) rfl ?_
          refine ok_goto F 4 dX5_writeNumber_36 (by decide) ?_
          refine ok_lvp [1, 2, 0] (lv' := [(0, pR 209), (1, pI v), (2, pI (u.tdiv 10))]) rfl ?_
          refine ih_4 _ ?_ (u.tdiv 10) m_3 ?_ rfl
          · omega
          · refine ⟨by omega, ?_⟩
            first
              | (rw [p3 u (by omega) (by omega)]; exact hE)
              | (rw [p2 u (by omega) (by omega), wcM_app, ← hE]; exact eW)
        · refine ok_iload_n F dX5_writeNumber_13 2 rfl ?_
          refine ok_iconst F dX5_writeNumber_14 ?_
          refine ok_icmp_ne F 31 dX5_writeNumber_15 (by decide) (by omega) (by omega) (fun c_5 => ?_) (fun c_5 => ?_)
          · refine ok_iload_n F dX5_writeNumber_31 2 rfl ?_
            refine ok_bipush F dX5_writeNumber_32 rfl ?_
            refine ok_idiv F dX5_writeNumber_34 (by omega) (by omega) (by omega) ?_
            refine ok_istore_n (lv' := [(2, pI (u.tdiv 10)), (0, pR 209), (1, pI v)]) F dX5_writeNumber_35 (by decide) rfl ?_
            refine ok_goto F 4 dX5_writeNumber_36 (by decide) ?_
            refine ok_lvp [1, 2, 0] (lv' := [(0, pR 209), (1, pI v), (2, pI (u.tdiv 10))]) rfl ?_
            refine ih_4 _ ?_ (u.tdiv 10) m ?_ rfl
            · omega
            · refine ⟨by omega, ?_⟩
              first
                | (rw [p3 u (by omega) (by omega)]; exact hE)
                | (rw [p2 u (by omega) (by omega), wcM_app, ← hE]; exact eW)
          · have hv3 := Int.tdiv_eq_ediv_of_nonneg (a := v) (b := u) (by omega)
            have hv1 : 0 ≤ v / u := Int.ediv_nonneg (by omega) (by omega)
            have hv2 : v / u ≤ v := Int.ediv_le_self u hv.1
            refine ok_aload_n F dX5_writeNumber_18 0 rfl ?_
            refine ok_bipush F dX5_writeNumber_19 rfl ?_
            refine ok_iload_n F dX5_writeNumber_21 1 rfl ?_
            refine ok_iload_n F dX5_writeNumber_22 2 rfl ?_
            refine ok_idiv F dX5_writeNumber_23 (by omega) (by omega) (by omega) ?_
            refine ok_bipush F dX5_writeNumber_24 rfl ?_
            refine ok_irem F dX5_writeNumber_26 (by omega) (by omega) (by omega) ?_
            refine ok_iadd F dX5_writeNumber_27 ?_
            refine ok_callv F [pI (48 + ((v.tdiv u).tmod 10))] dX5_writeNumber_28 kM_X5_writeByte kI_X5_writeByte kV_X5_writeByte kL_X5_83 (ci := 5) rfl sh_209 rfl (by decide) (Nat.le_of_ble_eq_true rfl) rfl (m_X5_writeByte _ (48 + ((v.tdiv u).tmod 10)) m (by omega) (by omega)) ?_
            rintro _ m_6 ⟨rfl, e_7⟩
            have eW := e_7
            refine ok_iload_n F dX5_writeNumber_31 2 rfl ?_
            refine ok_bipush F dX5_writeNumber_32 rfl ?_
            refine ok_idiv F dX5_writeNumber_34 (by omega) (by omega) (by omega) ?_
            refine ok_istore_n (lv' := [(2, pI (u.tdiv 10)), (0, pR 209), (1, pI v)]) F dX5_writeNumber_35 (by decide) rfl ?_
            refine ok_goto F 4 dX5_writeNumber_36 (by decide) ?_
            refine ok_lvp [1, 2, 0] (lv' := [(0, pR 209), (1, pI v), (2, pI (u.tdiv 10))]) rfl ?_
            refine ih_4 _ ?_ (u.tdiv 10) m_6 ?_ rfl
            · omega
            · refine ⟨by omega, ?_⟩
              first
                | (rw [p3 u (by omega) (by omega)]; exact hE)
                | (rw [p2 u (by omega) (by omega), wcM_app, ← hE]; exact eW)
  refine ok_lvp [1, 2, 0] (lv' := [(0, pR 209), (1, pI v), (2, pI 1000)]) rfl ?_
  refine hL_4 _ 1000 mem ?_ rfl
  exact ⟨by omega, by rw [p1]; rfl⟩
theorem dX5_writeRow_0 : decode cX5_writeRow 0 = .ok (.aload_n 0, 1) := by decide +kernel
theorem dX5_writeRow_1 : decode cX5_writeRow 1 = .ok (.aload_n 1, 1) := by decide +kernel
theorem dX5_writeRow_2 : decode cX5_writeRow 2 = .ok (.invokevirtual 58, 3) := by decide +kernel
theorem dX5_writeRow_5 : decode cX5_writeRow 5 = .ok (.iconst 0, 1) := by decide +kernel
theorem dX5_writeRow_6 : decode cX5_writeRow 6 = .ok (.istore 4, 2) := by decide +kernel
theorem dX5_writeRow_8 : decode cX5_writeRow 8 = .ok (.iload 4, 2) := by decide +kernel
theorem dX5_writeRow_10 : decode cX5_writeRow 10 = .ok (.aload_n 2, 1) := by decide +kernel
theorem dX5_writeRow_11 : decode cX5_writeRow 11 = .ok (.getfield 19, 3) := by decide +kernel
theorem dX5_writeRow_14 : decode cX5_writeRow 14 = .ok (.if_icmp .ge 23, 3) := by decide +kernel
theorem dX5_writeRow_17 : decode cX5_writeRow 17 = .ok (.aload_n 0, 1) := by decide +kernel
theorem dX5_writeRow_18 : decode cX5_writeRow 18 = .ok (.bipush 32, 2) := by decide +kernel
theorem dX5_writeRow_20 : decode cX5_writeRow 20 = .ok (.invokevirtual 83, 3) := by decide +kernel
theorem dX5_writeRow_23 : decode cX5_writeRow 23 = .ok (.aload_n 0, 1) := by decide +kernel
theorem dX5_writeRow_24 : decode cX5_writeRow 24 = .ok (.aload_n 3, 1) := by decide +kernel
theorem dX5_writeRow_25 : decode cX5_writeRow 25 = .ok (.iload 4, 2) := by decide +kernel
theorem dX5_writeRow_27 : decode cX5_writeRow 27 = .ok (.iaload, 1) := by decide +kernel
theorem dX5_writeRow_28 : decode cX5_writeRow 28 = .ok (.invokevirtual 87, 3) := by decide +kernel
theorem dX5_writeRow_31 : decode cX5_writeRow 31 = .ok (.iinc 4 1, 3) := by decide +kernel
theorem dX5_writeRow_34 : decode cX5_writeRow 34 = .ok (.goto (-26), 3) := by decide +kernel
theorem dX5_writeRow_37 : decode cX5_writeRow 37 = .ok (.return_, 1) := by decide +kernel
set_option maxHeartbeats 4000000 in
set_option maxRecDepth 100000 in
theorem m_X5_writeRow (l : Launch) (w : Nat) (R : Nat) (mem : Mem) (hw : w < 13) (hN : 0 ≤ mem 21 0 ∧ mem 21 0 ≤ 8) (hR : shp[R]? = some (.inr (.inl (0, 8)))) (hR9 : R ≠ 209) (hV : ∀ k : Nat, k < 8 → 0 ≤ mem R k ∧ mem R k ≤ 9999) (hW : 0 ≤ mem 209 0 ∧ mem 209 0 ≤ 1000000000) (hK : i32 (mem 209 2)) : Ret shp l yX5_writeRow cX5_writeRow 5 none 5 [pR 209, pR (1000 + w), pR 21, pR R] mem (fun rv mv => rv = none ∧ mv = wcM (rowT w (mem R) 0 (mem 21 0).toNat) mem) := by
  refine ret_of (by decide +kernel) (Nat.le_of_ble_eq_true rfl) (fun X hX F G => ?_)
  show Ok shp X 5 0 [(0, pR 209), (1, pR (1000 + w)), (2, pR 21), (3, pR R)] [] mem
  refine ok_aload_n F dX5_writeRow_0 0 rfl ?_
  refine ok_aload_n F dX5_writeRow_1 1 rfl ?_
  refine ok_callv F [pR (1000 + w)] dX5_writeRow_2 kM_X5_writeText kI_X5_writeText kV_X5_writeText kL_X5_58 (ci := 5) rfl sh_209 rfl (by decide) (Nat.le_of_ble_eq_true rfl) rfl (m_X5_writeText _ w mem (by omega) (by omega) (by omega)) ?_
  rintro _ m_1 ⟨rfl, e_2⟩
  have eT := e_2
  obtain ⟨t1, t4, t3⟩ := wcE e_2
  have tl := strT_len hw
  refine ok_iconst F dX5_writeRow_5 ?_
  refine ok_istore (lv' := [(4, pI 0), (0, pR 209), (1, pR (1000 + w)), (2, pR 21), (3, pR R)]) F dX5_writeRow_6 (by decide) rfl ?_
  have hL_8 : ∀ (n_8 : Nat) (k : Int) (m : Mem), (0 ≤ k ∧ k ≤ mem 21 0 ∧ m = wcM (strT w ++ catN (rowG (mem R) 0) k.toNat) mem) → (mem 21 0 - k).toNat = n_8 → Ok shp X 5 8 [(0, pR 209), (1, pR (1000 + w)), (2, pR 21), (3, pR R), (4, pI k)] [] m := by
    intro n_8
    induction n_8 using Nat.strongRecOn with
    | _ n_8 ih_8 =>
      intro k m hI_8 hn_8
      obtain ⟨hk0, hk1, hE⟩ := hI_8
      obtain ⟨x1, x4, x3⟩ := wcE hE
      have xl := catN_len (g := rowG (mem R) 0) (B := 5) k.toNat (fun j _ => rowG_len _ _ j)
      rw [List.length_append] at x1
      have tl2 := strT_len hw
      have h1 := x3 21 (by decide)
      have xR := x3 R hR9
      refine ok_iload F dX5_writeRow_8 4 rfl ?_
      refine ok_aload_n F dX5_writeRow_10 2 rfl ?_
      refine ok_getf (v := mem 21 0) F dX5_writeRow_11 kF_X5_19 sh_21 rfl (by rw [h1] <;> rfl) ?_
      refine ok_icmp_ge F 37 dX5_writeRow_14 (by decide) (by omega) (by omega) (fun c_3 => ?_) (fun c_3 => ?_)
      · refine ok_vret F G dX5_writeRow_37 ?_
        refine ⟨rfl, ?_⟩
        rw [hE, show k = mem 21 0 by omega]
        rfl
      · refine ok_aload_n F dX5_writeRow_17 0 rfl ?_
        refine ok_bipush F dX5_writeRow_18 rfl ?_
        refine ok_callv F [pI 32] dX5_writeRow_20 kM_X5_writeByte kI_X5_writeByte kV_X5_writeByte kL_X5_83 (ci := 5) rfl sh_209 rfl (by decide) (Nat.le_of_ble_eq_true rfl) rfl (m_X5_writeByte _ 32 m (by omega) (by omega)) ?_
        rintro _ m_4 ⟨rfl, e_5⟩
        have eS := e_5
        obtain ⟨s1, s4, s3⟩ := wd1E e_5
        have sR : m_4 R = mem R := by rw [s3 R hR9]; exact xR
        refine ok_aload_n F dX5_writeRow_23 0 rfl ?_
        refine ok_aload_n F dX5_writeRow_24 3 rfl ?_
        refine ok_iload F dX5_writeRow_25 4 rfl ?_
        refine ok_iald (v := m_4 R k.toNat) F dX5_writeRow_27 hR (by first | decide | assumption) (by omega) (by omega) rfl ?_
        refine ok_callv F [pI (m_4 R k.toNat)] dX5_writeRow_28 kM_X5_writeNumber kI_X5_writeNumber kV_X5_writeNumber kL_X5_87 (ci := 5) rfl sh_209 rfl (by decide) (Nat.le_of_ble_eq_true rfl) rfl (m_X5_writeNumber _ (m_4 R k.toNat) m_4 (by rw [sR]; exact hV k.toNat (by omega)) (by omega) (by omega)) ?_
        rintro _ m_6 ⟨rfl, e_7⟩
        have eN := e_7
        rw [sR] at eN
        refine ok_iinc (lv' := [(4, pI (k + 1)), (0, pR 209), (1, pR (1000 + w)), (2, pR 21), (3, pR R)]) F dX5_writeRow_31 4 rfl (by decide) rfl ?_
        refine ok_goto F 8 dX5_writeRow_34 (by decide) ?_
        refine ok_lvp [1, 2, 3, 4, 0] (lv' := [(0, pR 209), (1, pR (1000 + w)), (2, pR 21), (3, pR R), (4, pI (k + 1))]) rfl ?_
        refine ih_8 _ ?_ (k + 1) m_6 ?_ rfl
        · omega
        · refine ⟨by omega, by omega, ?_⟩
          rw [eN, eS, hE, show (k + 1).toNat = k.toNat + 1 by omega, catN_s, ← List.append_assoc, wcM_app (strT w ++ catN (rowG (mem R) 0) k.toNat)]
          unfold rowG
          rw [wcM_c, Nat.zero_add]
  refine ok_lvp [1, 2, 3, 4, 0] (lv' := [(0, pR 209), (1, pR (1000 + w)), (2, pR 21), (3, pR R), (4, pI 0)]) rfl ?_
  refine hL_8 _ 0 m_1 ?_ rfl
  refine ⟨by omega, by omega, ?_⟩
  rw [eT]; show _ = wcM (strT w ++ []) mem; rw [List.append_nil]
