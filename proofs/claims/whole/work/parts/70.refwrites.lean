/-! the letter: what is written, byte by byte -/
def wr1 (mem : Mem) (c : Int) : Mem := mset (if mem 0 31 = mem 0 32 then mset mem 0 33 c else mem) 0 31 (mem 0 31 + 1)
def wrM : List Int → Mem → Mem
  | [], m => m
  | c :: L, m => wrM L (wr1 m c)
theorem wrM_c (c : Int) (L : List Int) (m : Mem) : wrM (c :: L) m = wrM L (wr1 m c) := rfl
theorem wrM_app : ∀ (A B : List Int) (m : Mem), wrM (A ++ B) m = wrM B (wrM A m)
  | [], _, _ => rfl
  | c :: A, B, m => by
    show wrM (A ++ B) (wr1 m c) = wrM B (wrM A (wr1 m c))
    exact wrM_app A B (wr1 m c)
theorem wr1_at (m : Mem) (c : Int) : wr1 m c 0 31 = m 0 31 + 1 ∧ (∀ j, j ≠ 31 → j ≠ 33 → wr1 m c 0 j = m 0 j) ∧ ∀ a, a ≠ 0 → wr1 m c a = m a := by
  unfold wr1
  refine ⟨mset_eq _ _ _ _, fun j h h2 => ?_, fun a h => ?_⟩
  · rw [mset_ne (fun q => h q.2)]
    by_cases g : m 0 31 = m 0 32
    · rw [if_pos g, mset_ne (fun q => h2 q.2)]
    · rw [if_neg g]
  · rw [mset_nka h]
    by_cases g : m 0 31 = m 0 32
    · rw [if_pos g, mset_nka h]
    · rw [if_neg g]
theorem wrM_at : ∀ (L : List Int) (m : Mem), wrM L m 0 31 = m 0 31 + (L.length : Int) ∧ (∀ j, j ≠ 31 → j ≠ 33 → wrM L m 0 j = m 0 j) ∧ ∀ a, a ≠ 0 → wrM L m a = m a
  | [], m => ⟨(Int.add_zero _).symm, fun _ _ _ => rfl, fun _ _ => rfl⟩
  | c :: L, m => by
    obtain ⟨a1, a2, a3⟩ := wrM_at L (wr1 m c)
    obtain ⟨b1, b2, b3⟩ := wr1_at m c
    refine ⟨?_, fun j h h2 => ?_, fun a h => ?_⟩
    · rw [wrM_c, a1, b1, List.length_cons]; omega
    · rw [wrM_c, a2 j h h2, b2 j h h2]
    · rw [wrM_c, a3 a h, b3 a h]
/-- one list behind the other -/
def catN (g : Nat → List Int) : Nat → List Int
  | 0 => []
  | n + 1 => catN g n ++ g n
theorem catN_s (g : Nat → List Int) (n : Nat) : catN g (n + 1) = catN g n ++ g n := rfl
theorem catN_len {g : Nat → List Int} {B : Nat} : ∀ (n : Nat), (∀ k, k < n → (g k).length ≤ B) → (catN g n).length ≤ B * n
  | 0, _ => Nat.zero_le _
  | n + 1, h => by
    rw [catN_s, List.length_append, Nat.mul_succ]
    have a := catN_len n (fun k hk => h k (by omega))
    have b := h n (by omega)
    omega
theorem catN_congr {g g2 : Nat → List Int} : ∀ (n : Nat), (∀ k, k < n → g k = g2 k) → catN g n = catN g2 n
  | 0, _ => rfl
  | n + 1, h => by rw [catN_s, catN_s, catN_congr n (fun k hk => h k (by omega)), h n (by omega)]
def strG (w k : Nat) : List Int := [(((sTx w).getD k 0 : Nat) : Int)]
def strT (w : Nat) : List Int := catN (strG w) (sLen.getD w 0)
theorem strT_len {w : Nat} (hw : w < 13) : (strT w).length ≤ 6 := by
  have a := catN_len (g := strG w) (B := 1) (sLen.getD w 0) (fun _ _ => Nat.le_refl _)
  have b := sLen_bd hw
  unfold strT
  omega
/-- a number's digits, at most so many and one -/
def digN : Nat → Int → List Int
  | 0, v => [48 + v.tmod 10]
  | n + 1, v => if 9 < v then digN n (v.tdiv 10) ++ [48 + v.tmod 10] else [48 + v.tmod 10]
theorem digN_s (n : Nat) (v : Int) : digN (n + 1) v = if 9 < v then digN n (v.tdiv 10) ++ [48 + v.tmod 10] else [48 + v.tmod 10] := rfl
theorem digN_len : ∀ (n : Nat) (v : Int), (digN n v).length ≤ n + 1
  | 0, _ => Nat.le_refl _
  | n + 1, v => by
    rw [digN_s]
    by_cases g : 9 < v
    · rw [if_pos g, List.length_append]
      have := digN_len n (v.tdiv 10)
      have e : [48 + v.tmod 10].length = 1 := rfl
      omega
    · rw [if_neg g]
      show 1 ≤ n + 1 + 1
      omega
def rowG (f : Nat → Int) (s k : Nat) : List Int := 32 :: digN 3 (f (s + k))
def rowT (w : Nat) (f : Nat → Int) (s n : Nat) : List Int := strT w ++ catN (rowG f s) n
theorem rowG_len (f : Nat → Int) (s k : Nat) : (rowG f s k).length ≤ 5 := by
  have := digN_len 3 (f (s + k))
  unfold rowG
  rw [List.length_cons]
  omega
theorem dX8_writes_0 : decode cX8_writes 0 = .ok (.aload_n 0, 1) := by decide +kernel
theorem dX8_writes_1 : decode cX8_writes 1 = .ok (.getfield 353, 3) := by decide +kernel
theorem dX8_writes_4 : decode cX8_writes 4 = .ok (.aload_n 0, 1) := by decide +kernel
theorem dX8_writes_5 : decode cX8_writes 5 = .ok (.getfield 356, 3) := by decide +kernel
theorem dX8_writes_8 : decode cX8_writes 8 = .ok (.if_icmp .ne 8, 3) := by decide +kernel
theorem dX8_writes_11 : decode cX8_writes 11 = .ok (.aload_n 0, 1) := by decide +kernel
theorem dX8_writes_12 : decode cX8_writes 12 = .ok (.iload_n 1, 1) := by decide +kernel
theorem dX8_writes_13 : decode cX8_writes 13 = .ok (.putfield 359, 3) := by decide +kernel
theorem dX8_writes_16 : decode cX8_writes 16 = .ok (.aload_n 0, 1) := by decide +kernel
theorem dX8_writes_17 : decode cX8_writes 17 = .ok (.dup, 1) := by decide +kernel
theorem dX8_writes_18 : decode cX8_writes 18 = .ok (.getfield 353, 3) := by decide +kernel
theorem dX8_writes_21 : decode cX8_writes 21 = .ok (.iconst 1, 1) := by decide +kernel
theorem dX8_writes_22 : decode cX8_writes 22 = .ok (.iadd, 1) := by decide +kernel
theorem dX8_writes_23 : decode cX8_writes 23 = .ok (.putfield 353, 3) := by decide +kernel
theorem dX8_writes_26 : decode cX8_writes 26 = .ok (.return_, 1) := by decide +kernel
set_option maxHeartbeats 4000000 in
set_option maxRecDepth 100000 in
theorem m_X8_writes (l : Launch) (c : Int) (mem : Mem) (hW : i32 (mem 0 31)) (hK : i32 (mem 0 32)) : Ret shp l yX8_writes cX8_writes 2 none 0 [pR 0, pI c] mem (fun rv mv => rv = none ∧ mv = wr1 mem c) := by
  refine ret_of (by decide +kernel) (Nat.le_of_ble_eq_true rfl) (fun X hX F G => ?_)
  show Ok shp X 2 0 [(0, pR 0), (1, pI c)] [] mem
  refine ok_aload_n F dX8_writes_0 0 rfl ?_
  refine ok_getf (v := mem 0 31) F dX8_writes_1 kF_X8_353 sh_0 rfl rfl ?_
  refine ok_aload_n F dX8_writes_4 0 rfl ?_
  refine ok_getf (v := mem 0 32) F dX8_writes_5 kF_X8_356 sh_0 rfl rfl ?_
  refine ok_icmp_ne F 16 dX8_writes_8 (by decide) (by omega) (by omega) (fun c_1 => ?_) (fun c_1 => ?_)
  · refine ok_aload_n F dX8_writes_16 0 rfl ?_
    refine ok_dup F dX8_writes_17 rfl ?_
    refine ok_getf (v := mem 0 31) F dX8_writes_18 kF_X8_353 sh_0 rfl rfl ?_
    refine ok_iconst F dX8_writes_21 ?_
    refine ok_iadd F dX8_writes_22 ?_
    refine ok_putf F dX8_writes_23 kF_X8_353 sh_0 rfl rfl rfl (fun m_2 e_3 => ?_)
    refine ok_vret F G dX8_writes_26 ?_
    refine ⟨rfl, ?_⟩
    unfold wr1
    first
      | (rw [if_neg (by omega)]; exact e_3)
      | (rw [if_pos (by omega), e_3]; done)
  · refine ok_aload_n F dX8_writes_11 0 rfl ?_
    refine ok_iload_n F dX8_writes_12 1 rfl ?_
    refine ok_putf F dX8_writes_13 kF_X8_359 sh_0 rfl rfl rfl (fun m_4 e_5 => ?_)
    refine ok_aload_n F dX8_writes_16 0 rfl ?_
    refine ok_dup F dX8_writes_17 rfl ?_
    refine ok_getf (v := mem 0 31) F dX8_writes_18 kF_X8_353 sh_0 rfl (by rw [e_5, mset_ne (by decide)] <;> rfl) ?_
    refine ok_iconst F dX8_writes_21 ?_
    refine ok_iadd F dX8_writes_22 ?_
    refine ok_putf F dX8_writes_23 kF_X8_353 sh_0 rfl rfl rfl (fun m_6 e_7 => ?_)
    refine ok_vret F G dX8_writes_26 ?_
    refine ⟨rfl, ?_⟩
    unfold wr1
    first
      | (rw [if_neg (by omega)]; exact e_7)
      | (rw [if_pos (by omega), e_7, e_5]; done)
theorem dX8_writes__0 : decode cX8_writes_ 0 = .ok (.iconst 0, 1) := by decide +kernel
theorem dX8_writes__1 : decode cX8_writes_ 1 = .ok (.istore_n 2, 1) := by decide +kernel
theorem dX8_writes__2 : decode cX8_writes_ 2 = .ok (.iload_n 2, 1) := by decide +kernel
theorem dX8_writes__3 : decode cX8_writes_ 3 = .ok (.aload_n 1, 1) := by decide +kernel
theorem dX8_writes__4 : decode cX8_writes_ 4 = .ok (.invokevirtual 104, 3) := by decide +kernel
theorem dX8_writes__7 : decode cX8_writes_ 7 = .ok (.if_icmp .ge 18, 3) := by decide +kernel
theorem dX8_writes__10 : decode cX8_writes_ 10 = .ok (.aload_n 0, 1) := by decide +kernel
theorem dX8_writes__11 : decode cX8_writes_ 11 = .ok (.aload_n 1, 1) := by decide +kernel
theorem dX8_writes__12 : decode cX8_writes_ 12 = .ok (.iload_n 2, 1) := by decide +kernel
theorem dX8_writes__13 : decode cX8_writes_ 13 = .ok (.invokevirtual 109, 3) := by decide +kernel
theorem dX8_writes__16 : decode cX8_writes_ 16 = .ok (.invokevirtual 362, 3) := by decide +kernel
theorem dX8_writes__19 : decode cX8_writes_ 19 = .ok (.iinc 2 1, 3) := by decide +kernel
theorem dX8_writes__22 : decode cX8_writes_ 22 = .ok (.goto (-20), 3) := by decide +kernel
theorem dX8_writes__25 : decode cX8_writes_ 25 = .ok (.return_, 1) := by decide +kernel
set_option maxHeartbeats 4000000 in
set_option maxRecDepth 100000 in
theorem m_X8_writes_ (l : Launch) (w : Nat) (mem : Mem) (hw : w < 13) (hW : 0 ≤ mem 0 31 ∧ mem 0 31 ≤ 2000000000) (hK : i32 (mem 0 32)) : Ret shp l yX8_writes_ cX8_writes_ 3 none 4 [pR 0, pR (1000 + w)] mem (fun rv mv => rv = none ∧ mv = wrM (strT w) mem) := by
  refine ret_of (by decide +kernel) (Nat.le_of_ble_eq_true rfl) (fun X hX F G => ?_)
  show Ok shp X 3 0 [(0, pR 0), (1, pR (1000 + w))] [] mem
  have hlen := sLen_bd hw
  refine ok_iconst F dX8_writes__0 ?_
  refine ok_istore_n (lv' := [(2, pI 0), (0, pR 0), (1, pR (1000 + w))]) F dX8_writes__1 (by decide) rfl ?_
  have hL_2 : ∀ (n_2 : Nat) (k : Int) (m : Mem), (0 ≤ k ∧ k ≤ ((sLen.getD w 0 : Nat) : Int) ∧ m = wrM (catN (strG w) k.toNat) mem) → (10 - k).toNat = n_2 → Ok shp X 3 2 [(0, pR 0), (1, pR (1000 + w)), (2, pI k)] [] m := by
    intro n_2
    induction n_2 using Nat.strongRecOn with
    | _ n_2 ih_2 =>
      intro k m hI_2 hn_2
      obtain ⟨hk0, hk1, hE⟩ := hI_2
      obtain ⟨x1, x2, x3⟩ := wrM_at (catN (strG w) k.toNat) mem
      have xl := catN_len (g := strG w) (B := 1) k.toNat (fun _ _ => Nat.le_refl _)
      rw [← hE] at x1 x2
      have x4 := x2 32 (by decide) (by decide)
      refine ok_iload_n F dX8_writes__2 2 rfl ?_
      refine ok_aload_n F dX8_writes__3 1 rfl ?_
      refine ok_callt (i := w) F [] dX8_writes__4 kM_J0_length_8abf5 kI_J0_length_8abf5 kV_J0_length_8abf5 kL_X8_104 rfl hw rfl (by decide) (Nat.le_of_ble_eq_true rfl) rfl (m_J0_length _ w m hw) ?_
      rintro _ _ ⟨rfl, rfl⟩
      refine ok_icmp_ge F 25 dX8_writes__7 (by decide) (by omega) (by omega) (fun c_1 => ?_) (fun c_1 => ?_)
      · refine ok_vret F G dX8_writes__25 ?_
        refine ⟨rfl, ?_⟩
        rw [hE, show k.toNat = sLen.getD w 0 by omega]
        rfl
      · refine ok_aload_n F dX8_writes__10 0 rfl ?_
        refine ok_aload_n F dX8_writes__11 1 rfl ?_
        refine ok_iload_n F dX8_writes__12 2 rfl ?_
        refine ok_callt (i := w) F [pI k] dX8_writes__13 kM_J0_charAt_5068e kI_J0_charAt_5068e kV_J0_charAt_5068e kL_X8_109 rfl hw rfl (by decide) (Nat.le_of_ble_eq_true rfl) rfl (m_J0_charAt _ w k m hw (by omega)) ?_
        rintro _ _ ⟨rfl, rfl⟩
        refine ok_callv F [pI ((sTx w).getD k.toNat 0 : Nat)] dX8_writes__16 kM_X8_writes kI_X8_writes kV_X8_writes kL_X8_362 (ci := 8) rfl sh_0 rfl (by decide) (Nat.le_of_ble_eq_true rfl) rfl (m_X8_writes _ ((sTx w).getD k.toNat 0 : Nat) m (by omega) (by omega)) ?_
        rintro _ m_2 ⟨rfl, e_3⟩
        have eW := e_3
        refine ok_iinc (lv' := [(2, pI (k + 1)), (0, pR 0), (1, pR (1000 + w))]) F dX8_writes__19 2 rfl (by decide) rfl ?_
        refine ok_goto F 2 dX8_writes__22 (by decide) ?_
        refine ok_lvp [1, 2, 0] (lv' := [(0, pR 0), (1, pR (1000 + w)), (2, pI (k + 1))]) rfl ?_
        refine ih_2 _ ?_ (k + 1) m_2 ?_ rfl
        · omega
        · refine ⟨by omega, by omega, ?_⟩
          rw [eW, hE, show (k + 1).toNat = k.toNat + 1 by omega, catN_s, wrM_app]
          rfl
  refine ok_lvp [1, 2, 0] (lv' := [(0, pR 0), (1, pR (1000 + w)), (2, pI 0)]) rfl ?_
  refine hL_2 _ 0 mem ?_ rfl
  exact ⟨by omega, by omega, rfl⟩
theorem dX8_writesNumber_0 : decode cX8_writesNumber 0 = .ok (.iload_n 1, 1) := by decide +kernel
theorem dX8_writesNumber_1 : decode cX8_writesNumber 1 = .ok (.bipush 9, 2) := by decide +kernel
theorem dX8_writesNumber_3 : decode cX8_writesNumber 3 = .ok (.if_icmp .le 11, 3) := by decide +kernel
theorem dX8_writesNumber_14 : decode cX8_writesNumber 14 = .ok (.aload_n 0, 1) := by decide +kernel
theorem dX8_writesNumber_15 : decode cX8_writesNumber 15 = .ok (.bipush 48, 2) := by decide +kernel
theorem dX8_writesNumber_17 : decode cX8_writesNumber 17 = .ok (.iload_n 1, 1) := by decide +kernel
theorem dX8_writesNumber_18 : decode cX8_writesNumber 18 = .ok (.bipush 10, 2) := by decide +kernel
theorem dX8_writesNumber_20 : decode cX8_writesNumber 20 = .ok (.irem, 1) := by decide +kernel
theorem dX8_writesNumber_21 : decode cX8_writesNumber 21 = .ok (.iadd, 1) := by decide +kernel
theorem dX8_writesNumber_22 : decode cX8_writesNumber 22 = .ok (.invokevirtual 362, 3) := by decide +kernel
theorem dX8_writesNumber_25 : decode cX8_writesNumber 25 = .ok (.return_, 1) := by decide +kernel
set_option maxHeartbeats 4000000 in
set_option maxRecDepth 100000 in
theorem m_X8_writesNumber_0 (l : Launch) (v : Int) (mem : Mem) (hv : 0 ≤ v ∧ v ≤ 9) (hW : 0 ≤ mem 0 31 ∧ mem 0 31 ≤ 1999999991) (hK : i32 (mem 0 32)) : Ret shp l yX8_writesNumber cX8_writesNumber 2 none 1 [pR 0, pI v] mem (fun rv mv => rv = none ∧ mv = wrM (digN 0 v) mem) := by
  refine ret_of (by decide +kernel) (Nat.le_of_ble_eq_true rfl) (fun X hX F G => ?_)
  show Ok shp X 2 0 [(0, pR 0), (1, pI v)] [] mem
  have hd := Int.tdiv_eq_ediv_of_nonneg (a := v) (b := 10) (by omega)
  have hm := Int.tmod_eq_emod_of_nonneg (a := v) (b := 10) (by omega)
  refine ok_iload_n F dX8_writesNumber_0 1 rfl ?_
  refine ok_bipush F dX8_writesNumber_1 rfl ?_
  refine ok_icmp_le F 14 dX8_writesNumber_3 (by decide) (by omega) (by omega) (fun c_1 => ?_) (fun c_1 => ?_)
  · refine ok_aload_n F dX8_writesNumber_14 0 rfl ?_
    refine ok_bipush F dX8_writesNumber_15 rfl ?_
    refine ok_iload_n F dX8_writesNumber_17 1 rfl ?_
    refine ok_bipush F dX8_writesNumber_18 rfl ?_
    refine ok_irem F dX8_writesNumber_20 (by omega) (by omega) (by omega) ?_
    refine ok_iadd F dX8_writesNumber_21 ?_
    refine ok_callv F [pI (48 + (v.tmod 10))] dX8_writesNumber_22 kM_X8_writes kI_X8_writes kV_X8_writes kL_X8_362 (ci := 8) rfl sh_0 rfl (by decide) (Nat.le_of_ble_eq_true rfl) rfl (m_X8_writes _ (48 + (v.tmod 10)) mem (by omega) (by omega)) ?_
    rintro _ m_2 ⟨rfl, e_3⟩
    have eW := e_3
    refine ok_vret F G dX8_writesNumber_25 ?_
    exact ⟨rfl, eW⟩
  · exfalso; omega
theorem dX8_writesNumber_6 : decode cX8_writesNumber 6 = .ok (.aload_n 0, 1) := by decide +kernel
theorem dX8_writesNumber_7 : decode cX8_writesNumber 7 = .ok (.iload_n 1, 1) := by decide +kernel
theorem dX8_writesNumber_8 : decode cX8_writesNumber 8 = .ok (.bipush 10, 2) := by decide +kernel
theorem dX8_writesNumber_10 : decode cX8_writesNumber 10 = .ok (.idiv, 1) := by decide +kernel
theorem dX8_writesNumber_11 : decode cX8_writesNumber 11 = .ok (.invokevirtual 365, 3) := by decide +kernel
set_option maxHeartbeats 4000000 in
set_option maxRecDepth 100000 in
theorem m_X8_writesNumber_1 (l : Launch) (v : Int) (mem : Mem) (hv : 0 ≤ v ∧ v ≤ 99) (hW : 0 ≤ mem 0 31 ∧ mem 0 31 ≤ 1999999991) (hK : i32 (mem 0 32)) : Ret shp l yX8_writesNumber cX8_writesNumber 2 none 2 [pR 0, pI v] mem (fun rv mv => rv = none ∧ mv = wrM (digN 1 v) mem) := by
  refine ret_of (by decide +kernel) (Nat.le_of_ble_eq_true rfl) (fun X hX F G => ?_)
  show Ok shp X 2 0 [(0, pR 0), (1, pI v)] [] mem
  have hd := Int.tdiv_eq_ediv_of_nonneg (a := v) (b := 10) (by omega)
  have hm := Int.tmod_eq_emod_of_nonneg (a := v) (b := 10) (by omega)
  refine ok_iload_n F dX8_writesNumber_0 1 rfl ?_
  refine ok_bipush F dX8_writesNumber_1 rfl ?_
  refine ok_icmp_le F 14 dX8_writesNumber_3 (by decide) (by omega) (by omega) (fun c_1 => ?_) (fun c_1 => ?_)
  · refine ok_aload_n F dX8_writesNumber_14 0 rfl ?_
    refine ok_bipush F dX8_writesNumber_15 rfl ?_
    refine ok_iload_n F dX8_writesNumber_17 1 rfl ?_
    refine ok_bipush F dX8_writesNumber_18 rfl ?_
    refine ok_irem F dX8_writesNumber_20 (by omega) (by omega) (by omega) ?_
    refine ok_iadd F dX8_writesNumber_21 ?_
    refine ok_callv F [pI (48 + (v.tmod 10))] dX8_writesNumber_22 kM_X8_writes kI_X8_writes kV_X8_writes kL_X8_362 (ci := 8) rfl sh_0 rfl (by decide) (Nat.le_of_ble_eq_true rfl) rfl (m_X8_writes _ (48 + (v.tmod 10)) mem (by omega) (by omega)) ?_
    rintro _ m_2 ⟨rfl, e_3⟩
    have eW := e_3
    refine ok_vret F G dX8_writesNumber_25 ?_
    refine ⟨rfl, ?_⟩
    rw [digN_s]
    first
      | (rw [if_neg (by omega)]; exact eW)
      | (rw [if_pos (by omega), wrM_app, ← eD]; exact eW)
  · refine ok_aload_n F dX8_writesNumber_6 0 rfl ?_
    refine ok_iload_n F dX8_writesNumber_7 1 rfl ?_
    refine ok_bipush F dX8_writesNumber_8 rfl ?_
    refine ok_idiv F dX8_writesNumber_10 (by omega) (by omega) (by omega) ?_
    refine ok_callv F [pI (v.tdiv 10)] dX8_writesNumber_11 kM_X8_writesNumber kI_X8_writesNumber kV_X8_writesNumber kL_X8_365 (ci := 8) rfl sh_0 rfl (by decide) (Nat.le_of_ble_eq_true rfl) rfl (m_X8_writesNumber_0 _ (v.tdiv 10) mem (by omega) (by omega) (by omega)) ?_
    rintro _ m_4 ⟨rfl, e_5⟩
    have eD := e_5
    obtain ⟨d1, d2, d3⟩ := wrM_at (digN 0 (v.tdiv 10)) mem
    have dl := digN_len 0 (v.tdiv 10)
    rw [← eD] at d1 d2
    have d4 := d2 32 (by decide) (by decide)
    refine ok_aload_n F dX8_writesNumber_14 0 rfl ?_
    refine ok_bipush F dX8_writesNumber_15 rfl ?_
    refine ok_iload_n F dX8_writesNumber_17 1 rfl ?_
    refine ok_bipush F dX8_writesNumber_18 rfl ?_
    refine ok_irem F dX8_writesNumber_20 (by omega) (by omega) (by omega) ?_
    refine ok_iadd F dX8_writesNumber_21 ?_
    refine ok_callv F [pI (48 + (v.tmod 10))] dX8_writesNumber_22 kM_X8_writes kI_X8_writes kV_X8_writes kL_X8_362 (ci := 8) rfl sh_0 rfl (by decide) (Nat.le_of_ble_eq_true rfl) rfl (m_X8_writes _ (48 + (v.tmod 10)) m_4 (by omega) (by omega)) ?_
    rintro _ m_6 ⟨rfl, e_7⟩
    have eW := e_7
    refine ok_vret F G dX8_writesNumber_25 ?_
    refine ⟨rfl, ?_⟩
    rw [digN_s]
    first
      | (rw [if_neg (by omega)]; exact eW)
      | (rw [if_pos (by omega), wrM_app, ← eD]; exact eW)
set_option maxHeartbeats 4000000 in
set_option maxRecDepth 100000 in
theorem m_X8_writesNumber_2 (l : Launch) (v : Int) (mem : Mem) (hv : 0 ≤ v ∧ v ≤ 999) (hW : 0 ≤ mem 0 31 ∧ mem 0 31 ≤ 1999999991) (hK : i32 (mem 0 32)) : Ret shp l yX8_writesNumber cX8_writesNumber 2 none 3 [pR 0, pI v] mem (fun rv mv => rv = none ∧ mv = wrM (digN 2 v) mem) := by
  refine ret_of (by decide +kernel) (Nat.le_of_ble_eq_true rfl) (fun X hX F G => ?_)
  show Ok shp X 2 0 [(0, pR 0), (1, pI v)] [] mem
  have hd := Int.tdiv_eq_ediv_of_nonneg (a := v) (b := 10) (by omega)
  have hm := Int.tmod_eq_emod_of_nonneg (a := v) (b := 10) (by omega)
  refine ok_iload_n F dX8_writesNumber_0 1 rfl ?_
  refine ok_bipush F dX8_writesNumber_1 rfl ?_
  refine ok_icmp_le F 14 dX8_writesNumber_3 (by decide) (by omega) (by omega) (fun c_1 => ?_) (fun c_1 => ?_)
  · refine ok_aload_n F dX8_writesNumber_14 0 rfl ?_
    refine ok_bipush F dX8_writesNumber_15 rfl ?_
    refine ok_iload_n F dX8_writesNumber_17 1 rfl ?_
    refine ok_bipush F dX8_writesNumber_18 rfl ?_
    refine ok_irem F dX8_writesNumber_20 (by omega) (by omega) (by omega) ?_
    refine ok_iadd F dX8_writesNumber_21 ?_
    refine ok_callv F [pI (48 + (v.tmod 10))] dX8_writesNumber_22 kM_X8_writes kI_X8_writes kV_X8_writes kL_X8_362 (ci := 8) rfl sh_0 rfl (by decide) (Nat.le_of_ble_eq_true rfl) rfl (m_X8_writes _ (48 + (v.tmod 10)) mem (by omega) (by omega)) ?_
    rintro _ m_2 ⟨rfl, e_3⟩
    have eW := e_3
    refine ok_vret F G dX8_writesNumber_25 ?_
    refine ⟨rfl, ?_⟩
    rw [digN_s]
    first
      | (rw [if_neg (by omega)]; exact eW)
      | (rw [if_pos (by omega), wrM_app, ← eD]; exact eW)
  · refine ok_aload_n F dX8_writesNumber_6 0 rfl ?_
    refine ok_iload_n F dX8_writesNumber_7 1 rfl ?_
    refine ok_bipush F dX8_writesNumber_8 rfl ?_
    refine ok_idiv F dX8_writesNumber_10 (by omega) (by omega) (by omega) ?_
    refine ok_callv F [pI (v.tdiv 10)] dX8_writesNumber_11 kM_X8_writesNumber kI_X8_writesNumber kV_X8_writesNumber kL_X8_365 (ci := 8) rfl sh_0 rfl (by decide) (Nat.le_of_ble_eq_true rfl) rfl (m_X8_writesNumber_1 _ (v.tdiv 10) mem (by omega) (by omega) (by omega)) ?_
    rintro _ m_4 ⟨rfl, e_5⟩
    have eD := e_5
    obtain ⟨d1, d2, d3⟩ := wrM_at (digN 1 (v.tdiv 10)) mem
    have dl := digN_len 1 (v.tdiv 10)
    rw [← eD] at d1 d2
    have d4 := d2 32 (by decide) (by decide)
    refine ok_aload_n F dX8_writesNumber_14 0 rfl ?_
    refine ok_bipush F dX8_writesNumber_15 rfl ?_
    refine ok_iload_n F dX8_writesNumber_17 1 rfl ?_
    refine ok_bipush F dX8_writesNumber_18 rfl ?_
    refine ok_irem F dX8_writesNumber_20 (by omega) (by omega) (by omega) ?_
    refine ok_iadd F dX8_writesNumber_21 ?_
    refine ok_callv F [pI (48 + (v.tmod 10))] dX8_writesNumber_22 kM_X8_writes kI_X8_writes kV_X8_writes kL_X8_362 (ci := 8) rfl sh_0 rfl (by decide) (Nat.le_of_ble_eq_true rfl) rfl (m_X8_writes _ (48 + (v.tmod 10)) m_4 (by omega) (by omega)) ?_
    rintro _ m_6 ⟨rfl, e_7⟩
    have eW := e_7
    refine ok_vret F G dX8_writesNumber_25 ?_
    refine ⟨rfl, ?_⟩
    rw [digN_s]
    first
      | (rw [if_neg (by omega)]; exact eW)
      | (rw [if_pos (by omega), wrM_app, ← eD]; exact eW)
set_option maxHeartbeats 4000000 in
set_option maxRecDepth 100000 in
theorem m_X8_writesNumber_3 (l : Launch) (v : Int) (mem : Mem) (hv : 0 ≤ v ∧ v ≤ 9999) (hW : 0 ≤ mem 0 31 ∧ mem 0 31 ≤ 1999999991) (hK : i32 (mem 0 32)) : Ret shp l yX8_writesNumber cX8_writesNumber 2 none 4 [pR 0, pI v] mem (fun rv mv => rv = none ∧ mv = wrM (digN 3 v) mem) := by
  refine ret_of (by decide +kernel) (Nat.le_of_ble_eq_true rfl) (fun X hX F G => ?_)
  show Ok shp X 2 0 [(0, pR 0), (1, pI v)] [] mem
  have hd := Int.tdiv_eq_ediv_of_nonneg (a := v) (b := 10) (by omega)
  have hm := Int.tmod_eq_emod_of_nonneg (a := v) (b := 10) (by omega)
  refine ok_iload_n F dX8_writesNumber_0 1 rfl ?_
  refine ok_bipush F dX8_writesNumber_1 rfl ?_
  refine ok_icmp_le F 14 dX8_writesNumber_3 (by decide) (by omega) (by omega) (fun c_1 => ?_) (fun c_1 => ?_)
  · refine ok_aload_n F dX8_writesNumber_14 0 rfl ?_
    refine ok_bipush F dX8_writesNumber_15 rfl ?_
    refine ok_iload_n F dX8_writesNumber_17 1 rfl ?_
    refine ok_bipush F dX8_writesNumber_18 rfl ?_
    refine ok_irem F dX8_writesNumber_20 (by omega) (by omega) (by omega) ?_
    refine ok_iadd F dX8_writesNumber_21 ?_
    refine ok_callv F [pI (48 + (v.tmod 10))] dX8_writesNumber_22 kM_X8_writes kI_X8_writes kV_X8_writes kL_X8_362 (ci := 8) rfl sh_0 rfl (by decide) (Nat.le_of_ble_eq_true rfl) rfl (m_X8_writes _ (48 + (v.tmod 10)) mem (by omega) (by omega)) ?_
    rintro _ m_2 ⟨rfl, e_3⟩
    have eW := e_3
    refine ok_vret F G dX8_writesNumber_25 ?_
    refine ⟨rfl, ?_⟩
    rw [digN_s]
    first
      | (rw [if_neg (by omega)]; exact eW)
      | (rw [if_pos (by omega), wrM_app, ← eD]; exact eW)
  · refine ok_aload_n F dX8_writesNumber_6 0 rfl ?_
    refine ok_iload_n F dX8_writesNumber_7 1 rfl ?_
    refine ok_bipush F dX8_writesNumber_8 rfl ?_
    refine ok_idiv F dX8_writesNumber_10 (by omega) (by omega) (by omega) ?_
    refine ok_callv F [pI (v.tdiv 10)] dX8_writesNumber_11 kM_X8_writesNumber kI_X8_writesNumber kV_X8_writesNumber kL_X8_365 (ci := 8) rfl sh_0 rfl (by decide) (Nat.le_of_ble_eq_true rfl) rfl (m_X8_writesNumber_2 _ (v.tdiv 10) mem (by omega) (by omega) (by omega)) ?_
    rintro _ m_4 ⟨rfl, e_5⟩
    have eD := e_5
    obtain ⟨d1, d2, d3⟩ := wrM_at (digN 2 (v.tdiv 10)) mem
    have dl := digN_len 2 (v.tdiv 10)
    rw [← eD] at d1 d2
    have d4 := d2 32 (by decide) (by decide)
    refine ok_aload_n F dX8_writesNumber_14 0 rfl ?_
    refine ok_bipush F dX8_writesNumber_15 rfl ?_
    refine ok_iload_n F dX8_writesNumber_17 1 rfl ?_
    refine ok_bipush F dX8_writesNumber_18 rfl ?_
    refine ok_irem F dX8_writesNumber_20 (by omega) (by omega) (by omega) ?_
    refine ok_iadd F dX8_writesNumber_21 ?_
    refine ok_callv F [pI (48 + (v.tmod 10))] dX8_writesNumber_22 kM_X8_writes kI_X8_writes kV_X8_writes kL_X8_362 (ci := 8) rfl sh_0 rfl (by decide) (Nat.le_of_ble_eq_true rfl) rfl (m_X8_writes _ (48 + (v.tmod 10)) m_4 (by omega) (by omega)) ?_
    rintro _ m_6 ⟨rfl, e_7⟩
    have eW := e_7
    refine ok_vret F G dX8_writesNumber_25 ?_
    refine ⟨rfl, ?_⟩
    rw [digN_s]
    first
      | (rw [if_neg (by omega)]; exact eW)
      | (rw [if_pos (by omega), wrM_app, ← eD]; exact eW)
theorem dX8_writesRow_0 : decode cX8_writesRow 0 = .ok (.aload_n 0, 1) := by decide +kernel
theorem dX8_writesRow_1 : decode cX8_writesRow 1 = .ok (.aload_n 1, 1) := by decide +kernel
theorem dX8_writesRow_2 : decode cX8_writesRow 2 = .ok (.invokevirtual 368, 3) := by decide +kernel
theorem dX8_writesRow_5 : decode cX8_writesRow 5 = .ok (.iconst 0, 1) := by decide +kernel
theorem dX8_writesRow_6 : decode cX8_writesRow 6 = .ok (.istore_n 3, 1) := by decide +kernel
theorem dX8_writesRow_7 : decode cX8_writesRow 7 = .ok (.iload_n 3, 1) := by decide +kernel
theorem dX8_writesRow_8 : decode cX8_writesRow 8 = .ok (.aload_n 0, 1) := by decide +kernel
theorem dX8_writesRow_9 : decode cX8_writesRow 9 = .ok (.getfield 9, 3) := by decide +kernel
theorem dX8_writesRow_12 : decode cX8_writesRow 12 = .ok (.iconst 0, 1) := by decide +kernel
theorem dX8_writesRow_13 : decode cX8_writesRow 13 = .ok (.iaload, 1) := by decide +kernel
theorem dX8_writesRow_14 : decode cX8_writesRow 14 = .ok (.if_icmp .ge 27, 3) := by decide +kernel
theorem dX8_writesRow_17 : decode cX8_writesRow 17 = .ok (.aload_n 0, 1) := by decide +kernel
theorem dX8_writesRow_18 : decode cX8_writesRow 18 = .ok (.bipush 32, 2) := by decide +kernel
theorem dX8_writesRow_20 : decode cX8_writesRow 20 = .ok (.invokevirtual 362, 3) := by decide +kernel
theorem dX8_writesRow_23 : decode cX8_writesRow 23 = .ok (.aload_n 0, 1) := by decide +kernel
theorem dX8_writesRow_24 : decode cX8_writesRow 24 = .ok (.aload_n 0, 1) := by decide +kernel
theorem dX8_writesRow_25 : decode cX8_writesRow 25 = .ok (.getfield 9, 3) := by decide +kernel
theorem dX8_writesRow_28 : decode cX8_writesRow 28 = .ok (.iload_n 2, 1) := by decide +kernel
theorem dX8_writesRow_29 : decode cX8_writesRow 29 = .ok (.iload_n 3, 1) := by decide +kernel
theorem dX8_writesRow_30 : decode cX8_writesRow 30 = .ok (.iadd, 1) := by decide +kernel
theorem dX8_writesRow_31 : decode cX8_writesRow 31 = .ok (.iaload, 1) := by decide +kernel
theorem dX8_writesRow_32 : decode cX8_writesRow 32 = .ok (.invokevirtual 365, 3) := by decide +kernel
theorem dX8_writesRow_35 : decode cX8_writesRow 35 = .ok (.iinc 3 1, 3) := by decide +kernel
theorem dX8_writesRow_38 : decode cX8_writesRow 38 = .ok (.goto (-31), 3) := by decide +kernel
theorem dX8_writesRow_41 : decode cX8_writesRow 41 = .ok (.return_, 1) := by decide +kernel
set_option maxHeartbeats 4000000 in
set_option maxRecDepth 100000 in
theorem m_X8_writesRow (l : Launch) (w : Nat) (s : Int) (mem : Mem) (hw : w < 13) (hN : 0 ≤ mem 1 0 ∧ mem 1 0 ≤ 8) (hs : 0 ≤ s ∧ s ≤ 400) (hV : ∀ k : Nat, k < 8 → 0 ≤ mem 1 (s.toNat + k) ∧ mem 1 (s.toNat + k) ≤ 9999) (hW : 0 ≤ mem 0 31 ∧ mem 0 31 ≤ 1000000000) (hK : i32 (mem 0 32)) : Ret shp l yX8_writesRow cX8_writesRow 4 none 5 [pR 0, pR (1000 + w), pI s] mem (fun rv mv => rv = none ∧ mv = wrM (rowT w (mem 1) s.toNat (mem 1 0).toNat) mem) := by
  refine ret_of (by decide +kernel) (Nat.le_of_ble_eq_true rfl) (fun X hX F G => ?_)
  show Ok shp X 4 0 [(0, pR 0), (1, pR (1000 + w)), (2, pI s)] [] mem
  refine ok_aload_n F dX8_writesRow_0 0 rfl ?_
  refine ok_aload_n F dX8_writesRow_1 1 rfl ?_
  refine ok_callv F [pR (1000 + w)] dX8_writesRow_2 kM_X8_writes_ kI_X8_writes_ kV_X8_writes_ kL_X8_368 (ci := 8) rfl sh_0 rfl (by decide) (Nat.le_of_ble_eq_true rfl) rfl (m_X8_writes_ _ w mem (by omega) (by omega) (by omega)) ?_
  rintro _ m_1 ⟨rfl, e_2⟩
  have eT := e_2
  obtain ⟨t1, t2, t3⟩ := wrM_at (strT w) mem
  rw [← eT] at t1 t2 t3
  have tl := strT_len hw
  refine ok_iconst F dX8_writesRow_5 ?_
  refine ok_istore_n (lv' := [(3, pI 0), (0, pR 0), (1, pR (1000 + w)), (2, pI s)]) F dX8_writesRow_6 (by decide) rfl ?_
  have hL_7 : ∀ (n_7 : Nat) (k : Int) (m : Mem), (0 ≤ k ∧ k ≤ mem 1 0 ∧ m = wrM (strT w ++ catN (rowG (mem 1) s.toNat) k.toNat) mem) → (mem 1 0 - k).toNat = n_7 → Ok shp X 4 7 [(0, pR 0), (1, pR (1000 + w)), (2, pI s), (3, pI k)] [] m := by
    intro n_7
    induction n_7 using Nat.strongRecOn with
    | _ n_7 ih_7 =>
      intro k m hI_7 hn_7
      obtain ⟨hk0, hk1, hE⟩ := hI_7
      obtain ⟨x1, x2, x3⟩ := wrM_at (strT w ++ catN (rowG (mem 1) s.toNat) k.toNat) mem
      have xl := catN_len (g := rowG (mem 1) s.toNat) (B := 5) k.toNat (fun j _ => rowG_len _ _ j)
      rw [List.length_append] at x1
      have tl2 := strT_len hw
      rw [← hE] at x1 x2 x3
      have x4 := x2 32 (by decide) (by decide)
      have h1 := x3 1 (by decide)
      refine ok_iload_n F dX8_writesRow_7 3 rfl ?_
      refine ok_aload_n F dX8_writesRow_8 0 rfl ?_
      refine ok_getr F dX8_writesRow_9 kF_X8_9 sh_0 rfl ?_
      refine ok_iconst F dX8_writesRow_12 ?_
      refine ok_iald (v := mem 1 0) F dX8_writesRow_13 sh_1 (by first | decide | assumption) (by omega) (by omega) (by rw [h1] <;> rfl) ?_
      refine ok_icmp_ge F 41 dX8_writesRow_14 (by decide) (by omega) (by omega) (fun c_3 => ?_) (fun c_3 => ?_)
      · refine ok_vret F G dX8_writesRow_41 ?_
        refine ⟨rfl, ?_⟩
        rw [hE, show k = mem 1 0 by omega]
        rfl
      · refine ok_aload_n F dX8_writesRow_17 0 rfl ?_
        refine ok_bipush F dX8_writesRow_18 rfl ?_
        refine ok_callv F [pI 32] dX8_writesRow_20 kM_X8_writes kI_X8_writes kV_X8_writes kL_X8_362 (ci := 8) rfl sh_0 rfl (by decide) (Nat.le_of_ble_eq_true rfl) rfl (m_X8_writes _ 32 m (by omega) (by omega)) ?_
        rintro _ m_4 ⟨rfl, e_5⟩
        have eS := e_5
        obtain ⟨s1, s2, s3⟩ := wr1_at m 32
        rw [← eS] at s1 s2 s3
        have s4 := s2 32 (by decide) (by decide)
        refine ok_aload_n F dX8_writesRow_23 0 rfl ?_
        refine ok_aload_n F dX8_writesRow_24 0 rfl ?_
        refine ok_getr F dX8_writesRow_25 kF_X8_9 sh_0 rfl ?_
        refine ok_iload_n F dX8_writesRow_28 2 rfl ?_
        refine ok_iload_n F dX8_writesRow_29 3 rfl ?_
        refine ok_iadd F dX8_writesRow_30 ?_
        refine ok_iald (v := mem 1 ((s + k).toNat)) F dX8_writesRow_31 sh_1 (by first | decide | assumption) (by omega) (by omega) (by rw [s3 1 (by decide), h1] <;> rfl) ?_
        refine ok_callv F [pI (mem 1 ((s + k).toNat))] dX8_writesRow_32 kM_X8_writesNumber kI_X8_writesNumber kV_X8_writesNumber kL_X8_365 (ci := 8) rfl sh_0 rfl (by decide) (Nat.le_of_ble_eq_true rfl) rfl (m_X8_writesNumber_3 _ (mem 1 ((s + k).toNat)) m_4 (by have := hV k.toNat (by omega); rw [show s.toNat + k.toNat = (s + k).toNat by omega] at this; omega) (by omega) (by omega)) ?_
        rintro _ m_6 ⟨rfl, e_7⟩
        have eN := e_7
        refine ok_iinc (lv' := [(3, pI (k + 1)), (0, pR 0), (1, pR (1000 + w)), (2, pI s)]) F dX8_writesRow_35 3 rfl (by decide) rfl ?_
        refine ok_goto F 7 dX8_writesRow_38 (by decide) ?_
        refine ok_lvp [1, 2, 3, 0] (lv' := [(0, pR 0), (1, pR (1000 + w)), (2, pI s), (3, pI (k + 1))]) rfl ?_
        refine ih_7 _ ?_ (k + 1) m_6 ?_ rfl
        · omega
        · refine ⟨by omega, by omega, ?_⟩
          rw [eN, eS, hE, show (k + 1).toNat = k.toNat + 1 by omega, catN_s, ← List.append_assoc, wrM_app (strT w ++ catN (rowG (mem 1) s.toNat) k.toNat)]
          unfold rowG
          rw [wrM_c, show s.toNat + k.toNat = (s + k).toNat by omega]
  refine ok_lvp [1, 2, 3, 0] (lv' := [(0, pR 0), (1, pR (1000 + w)), (2, pI s), (3, pI 0)]) rfl ?_
  refine hL_7 _ 0 m_1 ?_ rfl
  refine ⟨by omega, by omega, ?_⟩
  rw [eT]; show _ = wrM (strT w ++ []) mem; rw [List.append_nil]
