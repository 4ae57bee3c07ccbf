/-! the reference: its small reads -/
theorem zb_nar {P : Prop} [Decidable P] : narrow .boolean (.int (Int32.ofInt (if P then 1 else 0))) = .int (Int32.ofInt (if P then 1 else 0)) := by
  by_cases h : P
  · rw [if_pos h]; rfl
  · rw [if_neg h]; rfl
def sumN (f : Nat → Int) : Nat → Int
  | 0 => 0
  | n + 1 => sumN f n + f n
theorem sumN_congr {f g : Nat → Int} : ∀ {n : Nat}, (∀ k, k < n → f k = g k) → sumN f n = sumN g n
  | 0, _ => rfl
  | n + 1, h => by
    show sumN f n + f n = sumN g n + g n
    rw [sumN_congr (fun k hk => h k (Nat.lt_succ_of_lt hk)), h n (Nat.lt_succ_self n)]
theorem sumN_s (f : Nat → Int) {k : Int} (h : 0 ≤ k) : sumN f (k + 1).toNat = sumN f k.toNat + f k.toNat := by
  rw [show (k + 1).toNat = k.toNat + 1 by omega]
  rfl
/-- a stretch of n places copied from one cell to another -/
def cpyN (mem : Mem) (c p t q n : Nat) : Mem := fun a b => if a = t ∧ q ≤ b ∧ b < q + n then mem c (p + (b - q)) else mem a b
theorem cpyN_0 (mem : Mem) (c p t q : Nat) : cpyN mem c p t q 0 = mem := by
  funext a b
  exact if_neg (by omega)
theorem cpyN_s {mem : Mem} {c p t q n : Nat} (h : c ≠ t) : mset (cpyN mem c p t q n) t (q + n) (cpyN mem c p t q n c (p + n)) = cpyN mem c p t q (n + 1) := by
  have e : cpyN mem c p t q n c (p + n) = mem c (p + n) := if_neg (fun z => h z.1)
  funext a b
  rw [e]
  unfold mset cpyN
  by_cases z : a = t ∧ b = q + n
  · obtain ⟨rfl, rfl⟩ := z
    rw [if_pos ⟨rfl, rfl⟩, if_pos (by omega), show p + (q + n - q) = p + n by omega]
  · rw [if_neg z]
    by_cases y : a = t ∧ q ≤ b ∧ b < q + n
    · rw [if_pos y, if_pos (by omega)]
    · rw [if_neg y, if_neg (by omega)]
theorem dX8_in_0 : decode cX8_in 0 = .ok (.lload_n 0, 1) := by decide +kernel
theorem dX8_in_1 : decode cX8_in 1 = .ok (.lload_n 2, 1) := by decide +kernel
theorem dX8_in_2 : decode cX8_in 2 = .ok (.lcmp, 1) := by decide +kernel
theorem dX8_in_3 : decode cX8_in 3 = .ok (.ifCond .lt 14, 3) := by decide +kernel
theorem dX8_in_6 : decode cX8_in 6 = .ok (.lload_n 0, 1) := by decide +kernel
theorem dX8_in_7 : decode cX8_in 7 = .ok (.lload 4, 2) := by decide +kernel
theorem dX8_in_9 : decode cX8_in 9 = .ok (.lcmp, 1) := by decide +kernel
theorem dX8_in_10 : decode cX8_in 10 = .ok (.ifCond .gt 7, 3) := by decide +kernel
theorem dX8_in_13 : decode cX8_in 13 = .ok (.iconst 1, 1) := by decide +kernel
theorem dX8_in_14 : decode cX8_in 14 = .ok (.goto 4, 3) := by decide +kernel
theorem dX8_in_17 : decode cX8_in 17 = .ok (.iconst 0, 1) := by decide +kernel
theorem dX8_in_18 : decode cX8_in 18 = .ok (.ireturn, 1) := by decide +kernel
set_option maxHeartbeats 4000000 in
set_option maxRecDepth 100000 in
theorem m_X8_in (l : Launch) (x : Int) (a : Int) (b : Int) (mem : Mem) (hx : i64 x) (ha : i64 a) (hb : i64 b) : Ret shp l yX8_in cX8_in 6 (some .boolean) 0 [pL x, pL a, pL b] mem (fun rv mv => rv = some (pI (if a ≤ x ∧ x ≤ b then 1 else 0)) ∧ mem = mv) := by
  refine ret_of (by decide +kernel) (Nat.le_of_ble_eq_true rfl) (fun X hX F G => ?_)
  show Ok shp X 6 0 [(0, pL x), (2, pL a), (4, pL b)] [] mem
  refine ok_lload_n F dX8_in_0 0 rfl ?_
  refine ok_lload_n F dX8_in_1 1 rfl ?_
  refine ok_lif_lt F 17 dX8_in_2 dX8_in_3 (by decide) (by omega) (by omega) (fun c_1 => ?_) (fun c_1 => ?_)
  · refine ok_iconst F dX8_in_17 ?_
    refine ok_zret F G dX8_in_18 (by first | rfl | exact zb_nar) ?_
    refine ⟨?_, rfl⟩
    first | rw [if_pos (by omega)] | rw [if_neg (by omega)]
  · refine ok_lload_n F dX8_in_6 0 rfl ?_
    refine ok_lload F dX8_in_7 2 rfl ?_
    refine ok_lif_gt F 17 dX8_in_9 dX8_in_10 (by decide) (by omega) (by omega) (fun c_2 => ?_) (fun c_2 => ?_)
    · refine ok_iconst F dX8_in_17 ?_
      refine ok_zret F G dX8_in_18 (by first | rfl | exact zb_nar) ?_
      refine ⟨?_, rfl⟩
      first | rw [if_pos (by omega)] | rw [if_neg (by omega)]
    · refine ok_iconst F dX8_in_13 ?_
      refine ok_goto F 18 dX8_in_14 (by decide) ?_
      refine ok_zret F G dX8_in_18 (by first | rfl | exact zb_nar) ?_
      refine ⟨?_, rfl⟩
      first | rw [if_pos (by omega)] | rw [if_neg (by omega)]
theorem dX8_truth_0 : decode cX8_truth 0 = .ok (.iload_n 0, 1) := by decide +kernel
theorem dX8_truth_1 : decode cX8_truth 1 = .ok (.ifCond .eq 7, 3) := by decide +kernel
theorem dX8_truth_4 : decode cX8_truth 4 = .ok (.iconst 1, 1) := by decide +kernel
theorem dX8_truth_5 : decode cX8_truth 5 = .ok (.goto 4, 3) := by decide +kernel
theorem dX8_truth_8 : decode cX8_truth 8 = .ok (.iconst 0, 1) := by decide +kernel
theorem dX8_truth_9 : decode cX8_truth 9 = .ok (.ireturn, 1) := by decide +kernel
set_option maxHeartbeats 4000000 in
set_option maxRecDepth 100000 in
theorem m_X8_truth (l : Launch) (b : Int) (mem : Mem) (hb : i32 b) : Ret shp l yX8_truth cX8_truth 1 (some .int) 0 [pI b] mem (fun rv mv => rv = some (pI (if b = 0 then 0 else 1)) ∧ mem = mv) := by
  refine ret_of (by decide +kernel) (Nat.le_of_ble_eq_true rfl) (fun X hX F G => ?_)
  show Ok shp X 1 0 [(0, pI b)] [] mem
  refine ok_iload_n F dX8_truth_0 0 rfl ?_
  refine ok_if_eq F 8 dX8_truth_1 (by decide) (by omega) (fun c_1 => ?_) (fun c_1 => ?_)
  · refine ok_iconst F dX8_truth_8 ?_
    refine ok_iret F G dX8_truth_9 ?_
    refine ⟨?_, rfl⟩
    first | rw [if_pos (by omega)] | rw [if_neg (by omega)]
  · refine ok_iconst F dX8_truth_4 ?_
    refine ok_goto F 9 dX8_truth_5 (by decide) ?_
    refine ok_iret F G dX8_truth_9 ?_
    refine ⟨?_, rfl⟩
    first | rw [if_pos (by omega)] | rw [if_neg (by omega)]
theorem dX8_moves_0 : decode cX8_moves 0 = .ok (.iconst 0, 1) := by decide +kernel
theorem dX8_moves_1 : decode cX8_moves 1 = .ok (.istore 4, 2) := by decide +kernel
theorem dX8_moves_3 : decode cX8_moves 3 = .ok (.iload 4, 2) := by decide +kernel
theorem dX8_moves_5 : decode cX8_moves 5 = .ok (.sipush 459, 3) := by decide +kernel
theorem dX8_moves_8 : decode cX8_moves 8 = .ok (.if_icmp .ge 21, 3) := by decide +kernel
theorem dX8_moves_11 : decode cX8_moves 11 = .ok (.aload_n 2, 1) := by decide +kernel
theorem dX8_moves_12 : decode cX8_moves 12 = .ok (.iload_n 3, 1) := by decide +kernel
theorem dX8_moves_13 : decode cX8_moves 13 = .ok (.iload 4, 2) := by decide +kernel
theorem dX8_moves_15 : decode cX8_moves 15 = .ok (.iadd, 1) := by decide +kernel
theorem dX8_moves_16 : decode cX8_moves 16 = .ok (.aload_n 0, 1) := by decide +kernel
theorem dX8_moves_17 : decode cX8_moves 17 = .ok (.iload_n 1, 1) := by decide +kernel
theorem dX8_moves_18 : decode cX8_moves 18 = .ok (.iload 4, 2) := by decide +kernel
theorem dX8_moves_20 : decode cX8_moves 20 = .ok (.iadd, 1) := by decide +kernel
theorem dX8_moves_21 : decode cX8_moves 21 = .ok (.iaload, 1) := by decide +kernel
theorem dX8_moves_22 : decode cX8_moves 22 = .ok (.iastore, 1) := by decide +kernel
theorem dX8_moves_23 : decode cX8_moves 23 = .ok (.iinc 4 1, 3) := by decide +kernel
theorem dX8_moves_26 : decode cX8_moves 26 = .ok (.goto (-23), 3) := by decide +kernel
theorem dX8_moves_29 : decode cX8_moves 29 = .ok (.return_, 1) := by decide +kernel
set_option maxHeartbeats 4000000 in
set_option maxRecDepth 100000 in
theorem m_X8_moves (l : Launch) (c : Nat) (p : Int) (t : Nat) (q : Int) (mem : Mem) (nc : Nat) (nt : Nat) (hc : shp[c]? = some (.inr (.inl (0, nc)))) (ht : shp[t]? = some (.inr (.inl (0, nt)))) (hct : c ≠ t) (hnc : nc < 2 ^ 31) (hnt : nt < 2 ^ 31) (hp : 0 ≤ p ∧ p + 459 ≤ nc) (hq : 0 ≤ q ∧ q + 459 ≤ nt) : Ret shp l yX8_moves cX8_moves 5 none 0 [pR c, pI p, pR t, pI q] mem (fun rv mv => rv = none ∧ mv = cpyN mem c p.toNat t q.toNat 459) := by
  refine ret_of (by decide +kernel) (Nat.le_of_ble_eq_true rfl) (fun X hX F G => ?_)
  show Ok shp X 5 0 [(0, pR c), (1, pI p), (2, pR t), (3, pI q)] [] mem
  refine ok_iconst F dX8_moves_0 ?_
  refine ok_istore (lv' := [(4, pI 0), (0, pR c), (1, pI p), (2, pR t), (3, pI q)]) F dX8_moves_1 (by decide) rfl ?_
  have hL_3 : ∀ (n_3 : Nat) (k : Int) (m : Mem), (0 ≤ k ∧ k ≤ 459 ∧ m = cpyN mem c p.toNat t q.toNat k.toNat) → (459 - k).toNat = n_3 → Ok shp X 5 3 [(0, pR c), (1, pI p), (2, pR t), (3, pI q), (4, pI k)] [] m := by
    intro n_3
    induction n_3 using Nat.strongRecOn with
    | _ n_3 ih_3 =>
      intro k m hI_3 hn_3
      refine ok_iload F dX8_moves_3 4 rfl ?_
      refine ok_sipush F dX8_moves_5 rfl ?_
      refine ok_icmp_ge F 29 dX8_moves_8 (by decide) (by omega) (by omega) (fun c_1 => ?_) (fun c_1 => ?_)
      · refine ok_vret F G dX8_moves_29 ?_
        refine ⟨rfl, ?_⟩
        rw [hI_3.2.2, show k = 459 by omega]
        rfl
      · refine ok_aload_n F dX8_moves_11 2 rfl ?_
        refine ok_iload_n F dX8_moves_12 3 rfl ?_
        refine ok_iload F dX8_moves_13 4 rfl ?_
        refine ok_iadd F dX8_moves_15 ?_
        refine ok_aload_n F dX8_moves_16 0 rfl ?_
        refine ok_iload_n F dX8_moves_17 1 rfl ?_
        refine ok_iload F dX8_moves_18 4 rfl ?_
        refine ok_iadd F dX8_moves_20 ?_
        refine ok_iald (v := m c ((p + k).toNat)) F dX8_moves_21 hc (by first | decide | assumption) (by omega) (by omega) rfl ?_
        refine ok_iast F dX8_moves_22 ht (by first | decide | assumption) (by omega) (by omega) (fun m_2 e_3 => ?_)
        refine ok_iinc (lv' := [(4, pI (k + 1)), (0, pR c), (1, pI p), (2, pR t), (3, pI q)]) F dX8_moves_23 4 rfl (by decide) rfl ?_
        refine ok_goto F 3 dX8_moves_26 (by decide) ?_
        refine ok_lvp [1, 2, 3, 4, 0] (lv' := [(0, pR c), (1, pI p), (2, pR t), (3, pI q), (4, pI (k + 1))]) rfl ?_
        refine ih_3 _ ?_ (k + 1) m_2 ?_ rfl
        · omega
        · refine ⟨by omega, by omega, ?_⟩
          rw [e_3, show (k + 1).toNat = k.toNat + 1 by omega, ← cpyN_s hct, hI_3.2.2, show (q + k).toNat = q.toNat + k.toNat by omega, show (p + k).toNat = p.toNat + k.toNat by omega]
  refine ok_lvp [1, 2, 3, 4, 0] (lv' := [(0, pR c), (1, pI p), (2, pR t), (3, pI q), (4, pI 0)]) rfl ?_
  refine hL_3 _ 0 mem ?_ rfl
  exact ⟨by omega, by omega, (cpyN_0 _ _ _ _ _).symm⟩
theorem dX8_isKind_0 : decode cX8_isKind 0 = .ok (.iload_n 1, 1) := by decide +kernel
theorem dX8_isKind_1 : decode cX8_isKind 1 = .ok (.i2l, 1) := by decide +kernel
theorem dX8_isKind_2 : decode cX8_isKind 2 = .ok (.lconst 0, 1) := by decide +kernel
theorem dX8_isKind_3 : decode cX8_isKind 3 = .ok (.aload_n 0, 1) := by decide +kernel
theorem dX8_isKind_4 : decode cX8_isKind 4 = .ok (.getfield 9, 3) := by decide +kernel
theorem dX8_isKind_7 : decode cX8_isKind 7 = .ok (.iconst 0, 1) := by decide +kernel
theorem dX8_isKind_8 : decode cX8_isKind 8 = .ok (.iaload, 1) := by decide +kernel
theorem dX8_isKind_9 : decode cX8_isKind 9 = .ok (.iconst 1, 1) := by decide +kernel
theorem dX8_isKind_10 : decode cX8_isKind 10 = .ok (.isub, 1) := by decide +kernel
theorem dX8_isKind_11 : decode cX8_isKind 11 = .ok (.i2l, 1) := by decide +kernel
theorem dX8_isKind_12 : decode cX8_isKind 12 = .ok (.invokestatic 100, 3) := by decide +kernel
theorem dX8_isKind_15 : decode cX8_isKind 15 = .ok (.ireturn, 1) := by decide +kernel
set_option maxHeartbeats 4000000 in
set_option maxRecDepth 100000 in
theorem m_X8_isKind (l : Launch) (k : Int) (mem : Mem) (hk : i32 k) (hN : 0 ≤ mem 1 0 ∧ mem 1 0 ≤ 8) : Ret shp l yX8_isKind cX8_isKind 2 (some .boolean) 1 [pR 0, pI k] mem (fun rv mv => rv = some (pI (if 0 ≤ k ∧ k ≤ mem 1 0 - 1 then 1 else 0)) ∧ mem = mv) := by
  refine ret_of (by decide +kernel) (Nat.le_of_ble_eq_true rfl) (fun X hX F G => ?_)
  show Ok shp X 2 0 [(0, pR 0), (1, pI k)] [] mem
  refine ok_iload_n F dX8_isKind_0 1 rfl ?_
  refine ok_i2l F dX8_isKind_1 (by omega) ?_
  refine ok_lconst (z := 0) F dX8_isKind_2 rfl ?_
  refine ok_aload_n F dX8_isKind_3 0 rfl ?_
  refine ok_getr F dX8_isKind_4 kF_X8_9 sh_0 rfl ?_
  refine ok_iconst F dX8_isKind_7 ?_
  refine ok_iald (v := mem 1 0) F dX8_isKind_8 sh_1 (by first | decide | assumption) (by omega) (by omega) rfl ?_
  refine ok_iconst F dX8_isKind_9 ?_
  refine ok_isub F dX8_isKind_10 ?_
  refine ok_i2l F dX8_isKind_11 (by omega) ?_
  refine ok_calls F [pL k, pL 0, pL ((mem 1 0) - 1)] dX8_isKind_12 kM_X8_in kS_X8_in kL_X8_100 rfl (by decide) (Nat.le_of_ble_eq_true rfl) rfl (m_X8_in _ k 0 ((mem 1 0) - 1) mem (by omega) (by omega) (by omega)) ?_
  rintro _ _ ⟨rfl, rfl⟩
  refine ok_zret F G dX8_isKind_15 (by first | rfl | exact zb_nar) ?_
  exact ⟨rfl, rfl⟩
theorem dX8_value_0 : decode cX8_value 0 = .ok (.aload_n 0, 1) := by decide +kernel
theorem dX8_value_1 : decode cX8_value 1 = .ok (.getfield 9, 3) := by decide +kernel
theorem dX8_value_4 : decode cX8_value 4 = .ok (.iconst 3, 1) := by decide +kernel
theorem dX8_value_5 : decode cX8_value 5 = .ok (.iload_n 1, 1) := by decide +kernel
theorem dX8_value_6 : decode cX8_value 6 = .ok (.iadd, 1) := by decide +kernel
theorem dX8_value_7 : decode cX8_value 7 = .ok (.iaload, 1) := by decide +kernel
theorem dX8_value_8 : decode cX8_value 8 = .ok (.ireturn, 1) := by decide +kernel
set_option maxHeartbeats 4000000 in
set_option maxRecDepth 100000 in
theorem m_X8_value (l : Launch) (k : Int) (mem : Mem) (hk : 0 ≤ k ∧ k < 400) : Ret shp l yX8_value cX8_value 2 (some .int) 0 [pR 0, pI k] mem (fun rv mv => rv = some (pI (mem 1 (3 + k).toNat)) ∧ mem = mv) := by
  refine ret_of (by decide +kernel) (Nat.le_of_ble_eq_true rfl) (fun X hX F G => ?_)
  show Ok shp X 2 0 [(0, pR 0), (1, pI k)] [] mem
  refine ok_aload_n F dX8_value_0 0 rfl ?_
  refine ok_getr F dX8_value_1 kF_X8_9 sh_0 rfl ?_
  refine ok_iconst F dX8_value_4 ?_
  refine ok_iload_n F dX8_value_5 1 rfl ?_
  refine ok_iadd F dX8_value_6 ?_
  refine ok_iald (v := mem 1 ((3 + k).toNat)) F dX8_value_7 sh_1 (by first | decide | assumption) (by omega) (by omega) rfl ?_
  refine ok_iret F G dX8_value_8 ?_
  exact ⟨rfl, rfl⟩
theorem dX8_isDay_0 : decode cX8_isDay 0 = .ok (.iload_n 1, 1) := by decide +kernel
theorem dX8_isDay_1 : decode cX8_isDay 1 = .ok (.i2l, 1) := by decide +kernel
theorem dX8_isDay_2 : decode cX8_isDay 2 = .ok (.lconst 0, 1) := by decide +kernel
theorem dX8_isDay_3 : decode cX8_isDay 3 = .ok (.aload_n 0, 1) := by decide +kernel
theorem dX8_isDay_4 : decode cX8_isDay 4 = .ok (.getfield 9, 3) := by decide +kernel
theorem dX8_isDay_7 : decode cX8_isDay 7 = .ok (.iconst 1, 1) := by decide +kernel
theorem dX8_isDay_8 : decode cX8_isDay 8 = .ok (.iaload, 1) := by decide +kernel
theorem dX8_isDay_9 : decode cX8_isDay 9 = .ok (.iconst 1, 1) := by decide +kernel
theorem dX8_isDay_10 : decode cX8_isDay 10 = .ok (.isub, 1) := by decide +kernel
theorem dX8_isDay_11 : decode cX8_isDay 11 = .ok (.i2l, 1) := by decide +kernel
theorem dX8_isDay_12 : decode cX8_isDay 12 = .ok (.invokestatic 100, 3) := by decide +kernel
theorem dX8_isDay_15 : decode cX8_isDay 15 = .ok (.ireturn, 1) := by decide +kernel
set_option maxHeartbeats 4000000 in
set_option maxRecDepth 100000 in
theorem m_X8_isDay (l : Launch) (d : Int) (mem : Mem) (hd : i32 d) (hN1 : 0 ≤ mem 1 1 ∧ mem 1 1 ≤ 5) : Ret shp l yX8_isDay cX8_isDay 2 (some .boolean) 1 [pR 0, pI d] mem (fun rv mv => rv = some (pI (if 0 ≤ d ∧ d ≤ mem 1 1 - 1 then 1 else 0)) ∧ mem = mv) := by
  refine ret_of (by decide +kernel) (Nat.le_of_ble_eq_true rfl) (fun X hX F G => ?_)
  show Ok shp X 2 0 [(0, pR 0), (1, pI d)] [] mem
  refine ok_iload_n F dX8_isDay_0 1 rfl ?_
  refine ok_i2l F dX8_isDay_1 (by omega) ?_
  refine ok_lconst (z := 0) F dX8_isDay_2 rfl ?_
  refine ok_aload_n F dX8_isDay_3 0 rfl ?_
  refine ok_getr F dX8_isDay_4 kF_X8_9 sh_0 rfl ?_
  refine ok_iconst F dX8_isDay_7 ?_
  refine ok_iald (v := mem 1 1) F dX8_isDay_8 sh_1 (by first | decide | assumption) (by omega) (by omega) rfl ?_
  refine ok_iconst F dX8_isDay_9 ?_
  refine ok_isub F dX8_isDay_10 ?_
  refine ok_i2l F dX8_isDay_11 (by omega) ?_
  refine ok_calls F [pL d, pL 0, pL ((mem 1 1) - 1)] dX8_isDay_12 kM_X8_in kS_X8_in kL_X8_100 rfl (by decide) (Nat.le_of_ble_eq_true rfl) rfl (m_X8_in _ d 0 ((mem 1 1) - 1) mem (by omega) (by omega) (by omega)) ?_
  rintro _ _ ⟨rfl, rfl⟩
  refine ok_zret F G dX8_isDay_15 (by first | rfl | exact zb_nar) ?_
  exact ⟨rfl, rfl⟩
theorem dX8_isAmount_0 : decode cX8_isAmount 0 = .ok (.iload_n 0, 1) := by decide +kernel
theorem dX8_isAmount_1 : decode cX8_isAmount 1 = .ok (.i2l, 1) := by decide +kernel
theorem dX8_isAmount_2 : decode cX8_isAmount 2 = .ok (.lconst 0, 1) := by decide +kernel
theorem dX8_isAmount_3 : decode cX8_isAmount 3 = .ok (.ldc2_w 305, 3) := by decide +kernel
theorem dX8_isAmount_6 : decode cX8_isAmount 6 = .ok (.invokestatic 100, 3) := by decide +kernel
theorem dX8_isAmount_9 : decode cX8_isAmount 9 = .ok (.ireturn, 1) := by decide +kernel
set_option maxHeartbeats 4000000 in
set_option maxRecDepth 100000 in
theorem m_X8_isAmount (l : Launch) (a : Int) (mem : Mem) (ha : i32 a) : Ret shp l yX8_isAmount cX8_isAmount 1 (some .boolean) 1 [pI a] mem (fun rv mv => rv = some (pI (if 0 ≤ a ∧ a ≤ 2500 then 1 else 0)) ∧ mem = mv) := by
  refine ret_of (by decide +kernel) (Nat.le_of_ble_eq_true rfl) (fun X hX F G => ?_)
  show Ok shp X 1 0 [(0, pI a)] [] mem
  refine ok_iload_n F dX8_isAmount_0 0 rfl ?_
  refine ok_i2l F dX8_isAmount_1 (by omega) ?_
  refine ok_lconst (z := 0) F dX8_isAmount_2 rfl ?_
  refine ok_ldc2 (n := 2500) F dX8_isAmount_3 kJ_X8_305 rfl ?_
  refine ok_calls F [pL a, pL 0, pL 2500] dX8_isAmount_6 kM_X8_in kS_X8_in kL_X8_100 rfl (by decide) (Nat.le_of_ble_eq_true rfl) rfl (m_X8_in _ a 0 2500 mem (by omega) (by omega) (by omega)) ?_
  rintro _ _ ⟨rfl, rfl⟩
  refine ok_zret F G dX8_isAmount_9 (by first | rfl | exact zb_nar) ?_
  exact ⟨rfl, rfl⟩
theorem dX8_cell_0 : decode cX8_cell 0 = .ok (.sipush 2501, 3) := by decide +kernel
theorem dX8_cell_3 : decode cX8_cell 3 = .ok (.iload_n 0, 1) := by decide +kernel
theorem dX8_cell_4 : decode cX8_cell 4 = .ok (.imul, 1) := by decide +kernel
theorem dX8_cell_5 : decode cX8_cell 5 = .ok (.iload_n 1, 1) := by decide +kernel
theorem dX8_cell_6 : decode cX8_cell 6 = .ok (.iadd, 1) := by decide +kernel
theorem dX8_cell_7 : decode cX8_cell 7 = .ok (.ireturn, 1) := by decide +kernel
set_option maxHeartbeats 4000000 in
set_option maxRecDepth 100000 in
theorem m_X8_cell (l : Launch) (k : Int) (a : Int) (mem : Mem) : Ret shp l yX8_cell cX8_cell 2 (some .int) 0 [pI k, pI a] mem (fun rv mv => rv = some (pI (2501 * k + a)) ∧ mem = mv) := by
  refine ret_of (by decide +kernel) (Nat.le_of_ble_eq_true rfl) (fun X hX F G => ?_)
  show Ok shp X 2 0 [(0, pI k), (1, pI a)] [] mem
  refine ok_sipush F dX8_cell_0 rfl ?_
  refine ok_iload_n F dX8_cell_3 0 rfl ?_
  refine ok_imul F dX8_cell_4 ?_
  refine ok_iload_n F dX8_cell_5 1 rfl ?_
  refine ok_iadd F dX8_cell_6 ?_
  refine ok_iret F G dX8_cell_7 ?_
  exact ⟨rfl, rfl⟩
theorem dX8_sum_0 : decode cX8_sum 0 = .ok (.sipush 4001, 3) := by decide +kernel
theorem dX8_sum_3 : decode cX8_sum 3 = .ok (.iload_n 0, 1) := by decide +kernel
theorem dX8_sum_4 : decode cX8_sum 4 = .ok (.imul, 1) := by decide +kernel
theorem dX8_sum_5 : decode cX8_sum 5 = .ok (.iload_n 1, 1) := by decide +kernel
theorem dX8_sum_6 : decode cX8_sum 6 = .ok (.iadd, 1) := by decide +kernel
theorem dX8_sum_7 : decode cX8_sum 7 = .ok (.sipush 2000, 3) := by decide +kernel
theorem dX8_sum_10 : decode cX8_sum 10 = .ok (.iadd, 1) := by decide +kernel
theorem dX8_sum_11 : decode cX8_sum 11 = .ok (.ireturn, 1) := by decide +kernel
set_option maxHeartbeats 4000000 in
set_option maxRecDepth 100000 in
theorem m_X8_sum (l : Launch) (k : Int) (v : Int) (mem : Mem) : Ret shp l yX8_sum cX8_sum 2 (some .int) 0 [pI k, pI v] mem (fun rv mv => rv = some (pI (4001 * k + v + 2000)) ∧ mem = mv) := by
  refine ret_of (by decide +kernel) (Nat.le_of_ble_eq_true rfl) (fun X hX F G => ?_)
  show Ok shp X 2 0 [(0, pI k), (1, pI v)] [] mem
  refine ok_sipush F dX8_sum_0 rfl ?_
  refine ok_iload_n F dX8_sum_3 0 rfl ?_
  refine ok_imul F dX8_sum_4 ?_
  refine ok_iload_n F dX8_sum_5 1 rfl ?_
  refine ok_iadd F dX8_sum_6 ?_
  refine ok_sipush F dX8_sum_7 rfl ?_
  refine ok_iadd F dX8_sum_10 ?_
  refine ok_iret F G dX8_sum_11 ?_
  exact ⟨rfl, rfl⟩
theorem dX8_rowOf_0 : decode cX8_rowOf 0 = .ok (.iload_n 1, 1) := by decide +kernel
theorem dX8_rowOf_1 : decode cX8_rowOf 1 = .ok (.ifCond .ne 8, 3) := by decide +kernel
theorem dX8_rowOf_4 : decode cX8_rowOf 4 = .ok (.bipush 11, 2) := by decide +kernel
theorem dX8_rowOf_6 : decode cX8_rowOf 6 = .ok (.goto 25, 3) := by decide +kernel
theorem dX8_rowOf_9 : decode cX8_rowOf 9 = .ok (.iload_n 1, 1) := by decide +kernel
theorem dX8_rowOf_10 : decode cX8_rowOf 10 = .ok (.iconst 1, 1) := by decide +kernel
theorem dX8_rowOf_11 : decode cX8_rowOf 11 = .ok (.if_icmp .ne 8, 3) := by decide +kernel
theorem dX8_rowOf_14 : decode cX8_rowOf 14 = .ok (.bipush 19, 2) := by decide +kernel
theorem dX8_rowOf_16 : decode cX8_rowOf 16 = .ok (.goto 15, 3) := by decide +kernel
theorem dX8_rowOf_19 : decode cX8_rowOf 19 = .ok (.iload_n 1, 1) := by decide +kernel
theorem dX8_rowOf_20 : decode cX8_rowOf 20 = .ok (.iconst 2, 1) := by decide +kernel
theorem dX8_rowOf_21 : decode cX8_rowOf 21 = .ok (.if_icmp .ne 8, 3) := by decide +kernel
theorem dX8_rowOf_24 : decode cX8_rowOf 24 = .ok (.bipush 27, 2) := by decide +kernel
theorem dX8_rowOf_26 : decode cX8_rowOf 26 = .ok (.goto 5, 3) := by decide +kernel
theorem dX8_rowOf_29 : decode cX8_rowOf 29 = .ok (.bipush 35, 2) := by decide +kernel
theorem dX8_rowOf_31 : decode cX8_rowOf 31 = .ok (.ireturn, 1) := by decide +kernel
set_option maxHeartbeats 4000000 in
set_option maxRecDepth 100000 in
theorem m_X8_rowOf (l : Launch) (r : Int) (mem : Mem) (hr : 0 ≤ r ∧ r ≤ 3) : Ret shp l yX8_rowOf cX8_rowOf 2 (some .int) 0 [pR 0, pI r] mem (fun rv mv => rv = some (pI (11 + 8 * r)) ∧ mem = mv) := by
  refine ret_of (by decide +kernel) (Nat.le_of_ble_eq_true rfl) (fun X hX F G => ?_)
  show Ok shp X 2 0 [(0, pR 0), (1, pI r)] [] mem
  refine ok_iload_n F dX8_rowOf_0 1 rfl ?_
  refine ok_if_ne F 9 dX8_rowOf_1 (by decide) (by omega) (fun c_1 => ?_) (fun c_1 => ?_)
  · refine ok_iload_n F dX8_rowOf_9 1 rfl ?_
    refine ok_iconst F dX8_rowOf_10 ?_
    refine ok_icmp_ne F 19 dX8_rowOf_11 (by decide) (by omega) (by omega) (fun c_2 => ?_) (fun c_2 => ?_)
    · refine ok_iload_n F dX8_rowOf_19 1 rfl ?_
      refine ok_iconst F dX8_rowOf_20 ?_
      refine ok_icmp_ne F 29 dX8_rowOf_21 (by decide) (by omega) (by omega) (fun c_3 => ?_) (fun c_3 => ?_)
      · refine ok_bipush F dX8_rowOf_29 rfl ?_
        refine ok_iret F G dX8_rowOf_31 ?_
        refine ⟨?_, rfl⟩
        rw [show (11 + 8 * r : Int) = 35 by omega]
      · refine ok_bipush F dX8_rowOf_24 rfl ?_
        refine ok_goto F 31 dX8_rowOf_26 (by decide) ?_
        refine ok_iret F G dX8_rowOf_31 ?_
        refine ⟨?_, rfl⟩
        rw [show (11 + 8 * r : Int) = 27 by omega]
    · refine ok_bipush F dX8_rowOf_14 rfl ?_
      refine ok_goto F 31 dX8_rowOf_16 (by decide) ?_
      refine ok_iret F G dX8_rowOf_31 ?_
      refine ⟨?_, rfl⟩
      rw [show (11 + 8 * r : Int) = 19 by omega]
  · refine ok_bipush F dX8_rowOf_4 rfl ?_
    refine ok_goto F 31 dX8_rowOf_6 (by decide) ?_
    refine ok_iret F G dX8_rowOf_31 ?_
    refine ⟨?_, rfl⟩
    rw [show (11 + 8 * r : Int) = 11 by omega]
theorem dX8_sumOf_0 : decode cX8_sumOf 0 = .ok (.iconst 0, 1) := by decide +kernel
theorem dX8_sumOf_1 : decode cX8_sumOf 1 = .ok (.istore_n 2, 1) := by decide +kernel
theorem dX8_sumOf_2 : decode cX8_sumOf 2 = .ok (.iconst 0, 1) := by decide +kernel
theorem dX8_sumOf_3 : decode cX8_sumOf 3 = .ok (.istore_n 3, 1) := by decide +kernel
theorem dX8_sumOf_4 : decode cX8_sumOf 4 = .ok (.iload_n 3, 1) := by decide +kernel
theorem dX8_sumOf_5 : decode cX8_sumOf 5 = .ok (.aload_n 0, 1) := by decide +kernel
theorem dX8_sumOf_6 : decode cX8_sumOf 6 = .ok (.getfield 9, 3) := by decide +kernel
theorem dX8_sumOf_9 : decode cX8_sumOf 9 = .ok (.iconst 0, 1) := by decide +kernel
theorem dX8_sumOf_10 : decode cX8_sumOf 10 = .ok (.iaload, 1) := by decide +kernel
theorem dX8_sumOf_11 : decode cX8_sumOf 11 = .ok (.if_icmp .ge 20, 3) := by decide +kernel
theorem dX8_sumOf_14 : decode cX8_sumOf 14 = .ok (.iload_n 2, 1) := by decide +kernel
theorem dX8_sumOf_15 : decode cX8_sumOf 15 = .ok (.aload_n 0, 1) := by decide +kernel
theorem dX8_sumOf_16 : decode cX8_sumOf 16 = .ok (.getfield 9, 3) := by decide +kernel
theorem dX8_sumOf_19 : decode cX8_sumOf 19 = .ok (.iload_n 1, 1) := by decide +kernel
theorem dX8_sumOf_20 : decode cX8_sumOf 20 = .ok (.iload_n 3, 1) := by decide +kernel
theorem dX8_sumOf_21 : decode cX8_sumOf 21 = .ok (.iadd, 1) := by decide +kernel
theorem dX8_sumOf_22 : decode cX8_sumOf 22 = .ok (.iaload, 1) := by decide +kernel
theorem dX8_sumOf_23 : decode cX8_sumOf 23 = .ok (.iadd, 1) := by decide +kernel
theorem dX8_sumOf_24 : decode cX8_sumOf 24 = .ok (.istore_n 2, 1) := by decide +kernel
theorem dX8_sumOf_25 : decode cX8_sumOf 25 = .ok (.iinc 3 1, 3) := by decide +kernel
theorem dX8_sumOf_28 : decode cX8_sumOf 28 = .ok (.goto (-24), 3) := by decide +kernel
theorem dX8_sumOf_31 : decode cX8_sumOf 31 = .ok (.iload_n 2, 1) := by decide +kernel
theorem dX8_sumOf_32 : decode cX8_sumOf 32 = .ok (.ireturn, 1) := by decide +kernel
set_option maxHeartbeats 4000000 in
set_option maxRecDepth 100000 in
theorem m_X8_sumOf (l : Launch) (f : Int) (mem : Mem) (hf : 0 ≤ f ∧ f ≤ 450) (hN : 0 ≤ mem 1 0 ∧ mem 1 0 ≤ 8) : Ret shp l yX8_sumOf cX8_sumOf 4 (some .int) 0 [pR 0, pI f] mem (fun rv mv => rv = some (pI (sumN (fun k => mem 1 (f.toNat + k)) (mem 1 0).toNat)) ∧ mem = mv) := by
  refine ret_of (by decide +kernel) (Nat.le_of_ble_eq_true rfl) (fun X hX F G => ?_)
  show Ok shp X 4 0 [(0, pR 0), (1, pI f)] [] mem
  refine ok_iconst F dX8_sumOf_0 ?_
  refine ok_istore_n (lv' := [(2, pI 0), (0, pR 0), (1, pI f)]) F dX8_sumOf_1 (by decide) rfl ?_
  refine ok_iconst F dX8_sumOf_2 ?_
  refine ok_istore_n (lv' := [(3, pI 0), (2, pI 0), (0, pR 0), (1, pI f)]) F dX8_sumOf_3 (by decide) rfl ?_
  have hL_4 : ∀ (n_4 : Nat) (n2 : Int) (k : Int), (0 ≤ k ∧ k ≤ mem 1 0 ∧ n2 = sumN (fun k => mem 1 (f.toNat + k)) k.toNat) → (mem 1 0 - k).toNat = n_4 → Ok shp X 4 4 [(0, pR 0), (1, pI f), (2, pI n2), (3, pI k)] [] mem := by
    intro n_4
    induction n_4 using Nat.strongRecOn with
    | _ n_4 ih_4 =>
      intro n2 k hI_4 hn_4
      refine ok_iload_n F dX8_sumOf_4 3 rfl ?_
      refine ok_aload_n F dX8_sumOf_5 0 rfl ?_
      refine ok_getr F dX8_sumOf_6 kF_X8_9 sh_0 rfl ?_
      refine ok_iconst F dX8_sumOf_9 ?_
      refine ok_iald (v := mem 1 0) F dX8_sumOf_10 sh_1 (by first | decide | assumption) (by omega) (by omega) rfl ?_
      refine ok_icmp_ge F 31 dX8_sumOf_11 (by decide) (by omega) (by omega) (fun c_1 => ?_) (fun c_1 => ?_)
      · refine ok_iload_n F dX8_sumOf_31 2 rfl ?_
        refine ok_iret F G dX8_sumOf_32 ?_
        refine ⟨?_, rfl⟩
        rw [hI_4.2.2, show k = mem 1 0 by omega]
      · refine ok_iload_n F dX8_sumOf_14 2 rfl ?_
        refine ok_aload_n F dX8_sumOf_15 0 rfl ?_
        refine ok_getr F dX8_sumOf_16 kF_X8_9 sh_0 rfl ?_
        refine ok_iload_n F dX8_sumOf_19 1 rfl ?_
        refine ok_iload_n F dX8_sumOf_20 3 rfl ?_
        refine ok_iadd F dX8_sumOf_21 ?_
        refine ok_iald (v := mem 1 ((f + k).toNat)) F dX8_sumOf_22 sh_1 (by first | decide | assumption) (by omega) (by omega) rfl ?_
        refine ok_iadd F dX8_sumOf_23 ?_
        refine ok_istore_n (lv' := [(2, pI (n2 + (mem 1 ((f + k).toNat)))), (0, pR 0), (1, pI f), (3, pI k)]) F dX8_sumOf_24 (by decide) rfl ?_
        refine ok_iinc (lv' := [(3, pI (k + 1)), (2, pI (n2 + (mem 1 ((f + k).toNat)))), (0, pR 0), (1, pI f)]) F dX8_sumOf_25 3 rfl (by decide) rfl ?_
        refine ok_goto F 4 dX8_sumOf_28 (by decide) ?_
        refine ok_lvp [2, 3, 1, 0] (lv' := [(0, pR 0), (1, pI f), (2, pI (n2 + (mem 1 ((f + k).toNat)))), (3, pI (k + 1))]) rfl ?_
        refine ih_4 _ ?_ (n2 + (mem 1 ((f + k).toNat))) (k + 1) ?_ rfl
        · omega
        · refine ⟨by omega, by omega, ?_⟩
          rw [sumN_s _ hI_4.1, hI_4.2.2, show (f + k).toNat = f.toNat + k.toNat by omega]
  refine ok_lvp [2, 3, 1, 0] (lv' := [(0, pR 0), (1, pI f), (2, pI 0), (3, pI 0)]) rfl ?_
  refine hL_4 _ 0 0 ?_ rfl
  exact ⟨by omega, by omega, rfl⟩
theorem dX8_worthOf_0 : decode cX8_worthOf 0 = .ok (.iconst 0, 1) := by decide +kernel
theorem dX8_worthOf_1 : decode cX8_worthOf 1 = .ok (.istore_n 2, 1) := by decide +kernel
theorem dX8_worthOf_2 : decode cX8_worthOf 2 = .ok (.iconst 0, 1) := by decide +kernel
theorem dX8_worthOf_3 : decode cX8_worthOf 3 = .ok (.istore_n 3, 1) := by decide +kernel
theorem dX8_worthOf_4 : decode cX8_worthOf 4 = .ok (.iload_n 3, 1) := by decide +kernel
theorem dX8_worthOf_5 : decode cX8_worthOf 5 = .ok (.aload_n 0, 1) := by decide +kernel
theorem dX8_worthOf_6 : decode cX8_worthOf 6 = .ok (.getfield 9, 3) := by decide +kernel
theorem dX8_worthOf_9 : decode cX8_worthOf 9 = .ok (.iconst 0, 1) := by decide +kernel
theorem dX8_worthOf_10 : decode cX8_worthOf 10 = .ok (.iaload, 1) := by decide +kernel
theorem dX8_worthOf_11 : decode cX8_worthOf 11 = .ok (.if_icmp .ge 26, 3) := by decide +kernel
theorem dX8_worthOf_14 : decode cX8_worthOf 14 = .ok (.iload_n 2, 1) := by decide +kernel
theorem dX8_worthOf_15 : decode cX8_worthOf 15 = .ok (.aload_n 0, 1) := by decide +kernel
theorem dX8_worthOf_16 : decode cX8_worthOf 16 = .ok (.getfield 9, 3) := by decide +kernel
theorem dX8_worthOf_19 : decode cX8_worthOf 19 = .ok (.iload_n 1, 1) := by decide +kernel
theorem dX8_worthOf_20 : decode cX8_worthOf 20 = .ok (.iload_n 3, 1) := by decide +kernel
theorem dX8_worthOf_21 : decode cX8_worthOf 21 = .ok (.iadd, 1) := by decide +kernel
theorem dX8_worthOf_22 : decode cX8_worthOf 22 = .ok (.iaload, 1) := by decide +kernel
theorem dX8_worthOf_23 : decode cX8_worthOf 23 = .ok (.aload_n 0, 1) := by decide +kernel
theorem dX8_worthOf_24 : decode cX8_worthOf 24 = .ok (.iload_n 3, 1) := by decide +kernel
theorem dX8_worthOf_25 : decode cX8_worthOf 25 = .ok (.invokevirtual 191, 3) := by decide +kernel
theorem dX8_worthOf_28 : decode cX8_worthOf 28 = .ok (.imul, 1) := by decide +kernel
theorem dX8_worthOf_29 : decode cX8_worthOf 29 = .ok (.iadd, 1) := by decide +kernel
theorem dX8_worthOf_30 : decode cX8_worthOf 30 = .ok (.istore_n 2, 1) := by decide +kernel
theorem dX8_worthOf_31 : decode cX8_worthOf 31 = .ok (.iinc 3 1, 3) := by decide +kernel
theorem dX8_worthOf_34 : decode cX8_worthOf 34 = .ok (.goto (-30), 3) := by decide +kernel
theorem dX8_worthOf_37 : decode cX8_worthOf 37 = .ok (.iload_n 2, 1) := by decide +kernel
theorem dX8_worthOf_38 : decode cX8_worthOf 38 = .ok (.ireturn, 1) := by decide +kernel
set_option maxHeartbeats 4000000 in
set_option maxRecDepth 100000 in
theorem m_X8_worthOf (l : Launch) (f : Int) (mem : Mem) (hf : 0 ≤ f ∧ f ≤ 450) (hN : 0 ≤ mem 1 0 ∧ mem 1 0 ≤ 8) : Ret shp l yX8_worthOf cX8_worthOf 4 (some .int) 1 [pR 0, pI f] mem (fun rv mv => rv = some (pI (sumN (fun k => mem 1 (f.toNat + k) * mem 1 (3 + k)) (mem 1 0).toNat)) ∧ mem = mv) := by
  refine ret_of (by decide +kernel) (Nat.le_of_ble_eq_true rfl) (fun X hX F G => ?_)
  show Ok shp X 4 0 [(0, pR 0), (1, pI f)] [] mem
  refine ok_iconst F dX8_worthOf_0 ?_
  refine ok_istore_n (lv' := [(2, pI 0), (0, pR 0), (1, pI f)]) F dX8_worthOf_1 (by decide) rfl ?_
  refine ok_iconst F dX8_worthOf_2 ?_
  refine ok_istore_n (lv' := [(3, pI 0), (2, pI 0), (0, pR 0), (1, pI f)]) F dX8_worthOf_3 (by decide) rfl ?_
  have hL_4 : ∀ (n_4 : Nat) (n2 : Int) (k : Int), (0 ≤ k ∧ k ≤ mem 1 0 ∧ n2 = sumN (fun k => mem 1 (f.toNat + k) * mem 1 (3 + k)) k.toNat) → (mem 1 0 - k).toNat = n_4 → Ok shp X 4 4 [(0, pR 0), (1, pI f), (2, pI n2), (3, pI k)] [] mem := by
    intro n_4
    induction n_4 using Nat.strongRecOn with
    | _ n_4 ih_4 =>
      intro n2 k hI_4 hn_4
      refine ok_iload_n F dX8_worthOf_4 3 rfl ?_
      refine ok_aload_n F dX8_worthOf_5 0 rfl ?_
      refine ok_getr F dX8_worthOf_6 kF_X8_9 sh_0 rfl ?_
      refine ok_iconst F dX8_worthOf_9 ?_
      refine ok_iald (v := mem 1 0) F dX8_worthOf_10 sh_1 (by first | decide | assumption) (by omega) (by omega) rfl ?_
      refine ok_icmp_ge F 37 dX8_worthOf_11 (by decide) (by omega) (by omega) (fun c_1 => ?_) (fun c_1 => ?_)
      · refine ok_iload_n F dX8_worthOf_37 2 rfl ?_
        refine ok_iret F G dX8_worthOf_38 ?_
        refine ⟨?_, rfl⟩
        rw [hI_4.2.2, show k = mem 1 0 by omega]
      · refine ok_iload_n F dX8_worthOf_14 2 rfl ?_
        refine ok_aload_n F dX8_worthOf_15 0 rfl ?_
        refine ok_getr F dX8_worthOf_16 kF_X8_9 sh_0 rfl ?_
        refine ok_iload_n F dX8_worthOf_19 1 rfl ?_
        refine ok_iload_n F dX8_worthOf_20 3 rfl ?_
        refine ok_iadd F dX8_worthOf_21 ?_
        refine ok_iald (v := mem 1 ((f + k).toNat)) F dX8_worthOf_22 sh_1 (by first | decide | assumption) (by omega) (by omega) rfl ?_
        refine ok_aload_n F dX8_worthOf_23 0 rfl ?_
        refine ok_iload_n F dX8_worthOf_24 3 rfl ?_
        refine ok_callv F [pI k] dX8_worthOf_25 kM_X8_value kI_X8_value kV_X8_value kL_X8_191 (ci := 8) rfl sh_0 rfl (by decide) (Nat.le_of_ble_eq_true rfl) rfl (m_X8_value _ k mem (by omega)) ?_
        rintro _ _ ⟨rfl, rfl⟩
        refine ok_imul F dX8_worthOf_28 ?_
        refine ok_iadd F dX8_worthOf_29 ?_
        refine ok_istore_n (lv' := [(2, pI (n2 + ((mem 1 ((f + k).toNat)) * (mem 1 (3 + k).toNat)))), (0, pR 0), (1, pI f), (3, pI k)]) F dX8_worthOf_30 (by decide) rfl ?_
        refine ok_iinc (lv' := [(3, pI (k + 1)), (2, pI (n2 + ((mem 1 ((f + k).toNat)) * (mem 1 (3 + k).toNat)))), (0, pR 0), (1, pI f)]) F dX8_worthOf_31 3 rfl (by decide) rfl ?_
        refine ok_goto F 4 dX8_worthOf_34 (by decide) ?_
        refine ok_lvp [2, 3, 1, 0] (lv' := [(0, pR 0), (1, pI f), (2, pI (n2 + ((mem 1 ((f + k).toNat)) * (mem 1 (3 + k).toNat)))), (3, pI (k + 1))]) rfl ?_
        refine ih_4 _ ?_ (n2 + ((mem 1 ((f + k).toNat)) * (mem 1 (3 + k).toNat))) (k + 1) ?_ rfl
        · omega
        · refine ⟨by omega, by omega, ?_⟩
          rw [sumN_s _ hI_4.1, hI_4.2.2, show (f + k).toNat = f.toNat + k.toNat by omega, show (3 + k).toNat = 3 + k.toNat by omega]
  refine ok_lvp [2, 3, 1, 0] (lv' := [(0, pR 0), (1, pI f), (2, pI 0), (3, pI 0)]) rfl ?_
  refine hL_4 _ 0 0 ?_ rfl
  exact ⟨by omega, by omega, rfl⟩
