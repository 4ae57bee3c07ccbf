/-! the class: what a State is, and its small members -/
theorem i32_nn {z : Int} {n : Int} (h : 0 ≤ z ∧ z ≤ n) (hn : n < 2147483648) : i32 z := ⟨by omega, by omega⟩
/-- the k-th of the fourteen States: now, the draft, ten of the past, two shelves -/
abbrev stB (i : Nat) : Nat := 21 + 11 * i
theorem stSh {i : Nat} (hi : i < 14) : shp[stB i]? = some (.inl (6, [none, none, some (stB i + 1), some (stB i + 2), some (stB i + 3), some (stB i + 4), some (stB i + 5), some (stB i + 6), some (stB i + 7), some (stB i + 8), some (stB i + 9), some (stB i + 10)])) := by
  have h : i = 0 ∨ i = 1 ∨ i = 2 ∨ i = 3 ∨ i = 4 ∨ i = 5 ∨ i = 6 ∨ i = 7 ∨ i = 8 ∨ i = 9 ∨ i = 10 ∨ i = 11 ∨ i = 12 ∨ i = 13 := by omega
  rcases h with rfl | rfl | rfl | rfl | rfl | rfl | rfl | rfl | rfl | rfl | rfl | rfl | rfl | rfl <;> rfl
/-- how many places of a State's cells are in use -/
def wid (n : Nat) : Nat := if n = 0 then 2 else if n < 8 then 8 else if n = 8 then 5 else if n = 9 then 40 else 320
theorem stShA {i n : Nat} (hi : i < 14) (h0 : 0 < n) (hn : n < 11) : shp[stB i + n]? = some (.inr (.inl (0, wid n))) := by
  have h : i = 0 ∨ i = 1 ∨ i = 2 ∨ i = 3 ∨ i = 4 ∨ i = 5 ∨ i = 6 ∨ i = 7 ∨ i = 8 ∨ i = 9 ∨ i = 10 ∨ i = 11 ∨ i = 12 ∨ i = 13 := by omega
  have g : n = 1 ∨ n = 2 ∨ n = 3 ∨ n = 4 ∨ n = 5 ∨ n = 6 ∨ n = 7 ∨ n = 8 ∨ n = 9 ∨ n = 10 := by omega
  rcases h with rfl | rfl | rfl | rfl | rfl | rfl | rfl | rfl | rfl | rfl | rfl | rfl | rfl | rfl <;> rcases g with rfl | rfl | rfl | rfl | rfl | rfl | rfl | rfl | rfl | rfl <;> rfl
/-- the first n of a State's cells taken over from another -/
def cpyS (mem : Mem) (b c n : Nat) : Mem := fun a j => if b ≤ a ∧ a < b + n ∧ j < wid (a - b) then mem (c + (a - b)) j else mem a j
theorem cpyS_s {mem : Mem} {b c n w : Nat} (hn : n < 11) (hw : wid n = w) (hbc : b + 11 ≤ c ∨ c + 11 ≤ b) : cpyN (cpyS mem b c n) (c + n) 0 (b + n) 0 w = cpyS mem b c (n + 1) := by
  subst hw
  funext a j
  unfold cpyN
  by_cases e : a = b + n ∧ 0 ≤ j ∧ j < 0 + wid n
  · rw [if_pos e]
    obtain ⟨rfl, e2, e3⟩ := e
    unfold cpyS
    rw [if_neg (by omega), if_pos (by rw [show b + n - b = n by omega]; omega), show b + n - b = n by omega, show 0 + (j - 0) = j by omega]
  · rw [if_neg e]
    unfold cpyS
    by_cases g : b ≤ a ∧ a < b + n ∧ j < wid (a - b)
    · rw [if_pos g, if_pos (by omega)]
    · rw [if_neg g, if_neg (fun q => ?_)]
      by_cases q2 : a = b + n
      · subst q2
        rw [show b + n - b = n by omega] at q
        omega
      · omega
theorem cpyS_2 {mem : Mem} {b c : Nat} (hbc : b + 11 ≤ c ∨ c + 11 ≤ b) : mset (mset mem b 0 (mem c 0)) b 1 (mset mem b 0 (mem c 0) c 1) = cpyS mem b c 1 := by
  funext a j
  unfold cpyS
  by_cases g : b ≤ a ∧ a < b + 1 ∧ j < wid (a - b)
  · obtain ⟨g1, g2, g3⟩ := g
    obtain rfl : a = b := by omega
    rw [show a - a = 0 by omega] at g3 ⊢
    rw [if_pos ⟨g1, g2, g3⟩]
    have g4 : j < 2 := g3
    by_cases e : j = 1
    · subst e; rw [mset_eq, mset_nk (by omega)]; rfl
    · obtain rfl : j = 0 := by omega
      rw [mset_ne (by omega), mset_eq]; rfl
  · rw [if_neg g]
    have g2 : ¬ (a = b ∧ j < 2) := fun q => g ⟨by omega, by omega, by rw [show a - b = 0 by omega]; exact q.2⟩
    rw [mset_ne (by omega), mset_ne (by omega)]
theorem cpyS_ne {mem : Mem} {b c n a : Nat} (h : a < b ∨ b + n ≤ a) : cpyS mem b c n a = mem a := by
  funext j
  exact if_neg (by omega)
theorem cpyS_at {mem : Mem} {b c n k j : Nat} (h : k < n) (hj : j < wid k) : cpyS mem b c n (b + k) j = mem (c + k) j := by
  unfold cpyS
  rw [show b + k - b = k by omega]
  exact if_pos ⟨by omega, by omega, hj⟩
/-- where a day's sales begin, by the days' ends -/
def fstD (g : Nat → Int) (d : Int) : Int := if d < 1 ∨ 5 < d then 0 else g (d - 1).toNat
/-- how many sales a day has -/
def nsaD (g : Nat → Int) (n d : Int) : Int := if d < 0 ∨ n ≤ d then 0 else g d.toNat - fstD g d
theorem fstD_bd {g : Nat → Int} {B : Int} (hB : 0 ≤ B) (h : ∀ d : Nat, d < 5 → 0 ≤ g d ∧ g d ≤ B) (d : Int) : 0 ≤ fstD g d ∧ fstD g d ≤ B := by
  unfold fstD
  by_cases e : d < 1 ∨ 5 < d
  · rw [if_pos e]; omega
  · rw [if_neg e]; exact h _ (by omega)
/-- a sale opened behind the others: its price, none given of the first n kinds -/
def opnM (mem : Mem) (b s : Nat) (p : Int) (n : Nat) : Mem := fun a j => if a = b + 10 ∧ 8 * s ≤ j ∧ j < 8 * s + n then 0 else mset mem (b + 9) s p a j
theorem opnM_0 (mem : Mem) (b s : Nat) (p : Int) : opnM mem b s p 0 = mset mem (b + 9) s p := by
  funext a j
  exact if_neg (by omega)
theorem opnM_s (mem : Mem) (b s : Nat) (p : Int) (n : Nat) : mset (opnM mem b s p n) (b + 10) (8 * s + n) 0 = opnM mem b s p (n + 1) := by
  funext a j
  by_cases e : a = b + 10 ∧ j = 8 * s + n
  · obtain ⟨rfl, rfl⟩ := e
    rw [mset_eq]
    exact (if_pos (by omega)).symm
  · rw [mset_ne e]
    unfold opnM
    by_cases g : a = b + 10 ∧ 8 * s ≤ j ∧ j < 8 * s + n
    · rw [if_pos g, if_pos (by omega)]
    · rw [if_neg g, if_neg (by omega)]
/-- a State emptied, its first n kinds -/
def clrM (mem : Mem) (b n : Nat) : Mem := fun a j => if b + 1 ≤ a ∧ a ≤ b + 7 ∧ j < n then (if a = b + 4 then 99 else if a = b + 5 then 10 else 0) else if a = b ∧ j < 2 then 0 else mem a j
theorem clrM_0 (mem : Mem) (b : Nat) : mset (mset mem b 0 0) b 1 0 = clrM mem b 0 := by
  funext a j
  unfold clrM
  rw [if_neg (by omega)]
  by_cases e : a = b ∧ j < 2
  · obtain ⟨rfl, e⟩ := e
    rw [if_pos ⟨rfl, e⟩]
    by_cases g : j = 1
    · subst g; exact mset_eq _ _ _ _
    · obtain rfl : j = 0 := by omega
      rw [mset_ne (by omega)]; exact mset_eq _ _ _ _
  · rw [if_neg e, mset_ne (by omega), mset_ne (by omega)]
theorem clrM_s (mem : Mem) (n : Nat) : mset (mset (mset (mset (mset (mset (mset (clrM mem 32 n) 33 n 0) 34 n 0) 35 n 0) 36 n 99) 37 n 10) 38 n 0) 39 n 0 = clrM mem 32 (n + 1) := by
  funext a j
  by_cases e : 33 ≤ a ∧ a ≤ 39 ∧ j = n
  · obtain ⟨e1, e2, rfl⟩ := e
    have h : clrM mem 32 (j + 1) a j = (if a = 32 + 4 then 99 else if a = 32 + 5 then 10 else 0) := if_pos (by omega)
    rw [h]
    unfold mset
    have ha : a = 33 ∨ a = 34 ∨ a = 35 ∨ a = 36 ∨ a = 37 ∨ a = 38 ∨ a = 39 := by omega
    rcases ha with rfl | rfl | rfl | rfl | rfl | rfl | rfl <;> simp
  · rw [mset_ne (by omega), mset_ne (by omega), mset_ne (by omega), mset_ne (by omega), mset_ne (by omega), mset_ne (by omega), mset_ne (by omega)]
    unfold clrM
    by_cases g : 32 + 1 ≤ a ∧ a ≤ 32 + 7 ∧ j < n
    · rw [if_pos g]
      exact (if_pos (by omega)).symm
    · rw [if_neg g]
      exact (if_neg (by omega)).symm
theorem dX7_copyRow_0 : decode cX7_copyRow 0 = .ok (.aload_n 0, 1) := by decide +kernel
theorem dX7_copyRow_1 : decode cX7_copyRow 1 = .ok (.iconst 0, 1) := by decide +kernel
theorem dX7_copyRow_2 : decode cX7_copyRow 2 = .ok (.aload_n 1, 1) := by decide +kernel
theorem dX7_copyRow_3 : decode cX7_copyRow 3 = .ok (.iconst 0, 1) := by decide +kernel
theorem dX7_copyRow_4 : decode cX7_copyRow 4 = .ok (.aload_n 0, 1) := by decide +kernel
theorem dX7_copyRow_5 : decode cX7_copyRow 5 = .ok (.arraylength, 1) := by decide +kernel
theorem dX7_copyRow_6 : decode cX7_copyRow 6 = .ok (.aload_n 1, 1) := by decide +kernel
theorem dX7_copyRow_7 : decode cX7_copyRow 7 = .ok (.arraylength, 1) := by decide +kernel
theorem dX7_copyRow_8 : decode cX7_copyRow 8 = .ok (.invokestatic 206, 3) := by decide +kernel
theorem dX7_copyRow_11 : decode cX7_copyRow 11 = .ok (.invokestatic 326, 3) := by decide +kernel
theorem dX7_copyRow_14 : decode cX7_copyRow 14 = .ok (.return_, 1) := by decide +kernel
set_option maxHeartbeats 4000000 in
set_option maxRecDepth 100000 in
theorem m_X7_copyRow (l : Launch) (c : Nat) (t : Nat) (mem : Mem) (n : Nat) (hc : shp[c]? = some (.inr (.inl (0, n)))) (ht : shp[t]? = some (.inr (.inl (0, n)))) (hn : n < 2 ^ 31) : Ret shp l yX7_copyRow cX7_copyRow 2 none 1 [pR c, pR t] mem (fun rv mv => rv = none ∧ mv = cpyN mem c 0 t 0 n) := by
  refine ret_of (by decide +kernel) (Nat.le_of_ble_eq_true rfl) (fun X hX F G => ?_)
  show Ok shp X 2 0 [(0, pR c), (1, pR t)] [] mem
  refine ok_aload_n F dX7_copyRow_0 0 rfl ?_
  refine ok_iconst F dX7_copyRow_1 ?_
  refine ok_aload_n F dX7_copyRow_2 1 rfl ?_
  refine ok_iconst F dX7_copyRow_3 ?_
  refine ok_aload_n F dX7_copyRow_4 0 rfl ?_
  refine ok_alen F dX7_copyRow_5 hc (by first | decide | assumption) ?_
  refine ok_aload_n F dX7_copyRow_6 1 rfl ?_
  refine ok_alen F dX7_copyRow_7 ht (by first | decide | assumption) ?_
  refine ok_mmin F dX7_copyRow_8 kL_X7_206 kS_J9_min_7cf53 kM_J9_min_7cf53.2.1 kM_J9_min_7cf53.2.2.1 (by omega) (by omega) (by decide) (Nat.le_of_ble_eq_true rfl) ?_
  refine ok_copyi F dX7_copyRow_11 kW_cpL hc ht (by omega) (by omega) (by omega) (by omega) (by decide) (Nat.le_of_ble_eq_true rfl) ?_
  obtain ⟨m_1, e_2⟩ : ∃ x, x = cpyN mem c 0 t 0 ((min (n : Int) (n : Int))).toNat := ⟨_, rfl⟩
  rw [← e_2]
  refine ok_vret F G dX7_copyRow_14 ?_
  refine ⟨rfl, ?_⟩
  subst_vars
  rw [show (min (n : Int) (n : Int)).toNat = n by omega]
theorem dX7_hasKind_0 : decode cX7_hasKind 0 = .ok (.iload_n 1, 1) := by decide +kernel
theorem dX7_hasKind_1 : decode cX7_hasKind 1 = .ok (.ifCond .lt 18, 3) := by decide +kernel
theorem dX7_hasKind_4 : decode cX7_hasKind 4 = .ok (.iload_n 1, 1) := by decide +kernel
theorem dX7_hasKind_5 : decode cX7_hasKind 5 = .ok (.aload_n 0, 1) := by decide +kernel
theorem dX7_hasKind_6 : decode cX7_hasKind 6 = .ok (.getfield 10, 3) := by decide +kernel
theorem dX7_hasKind_9 : decode cX7_hasKind 9 = .ok (.getfield 103, 3) := by decide +kernel
theorem dX7_hasKind_12 : decode cX7_hasKind 12 = .ok (.if_icmp .ge 7, 3) := by decide +kernel
theorem dX7_hasKind_15 : decode cX7_hasKind 15 = .ok (.iconst 1, 1) := by decide +kernel
theorem dX7_hasKind_16 : decode cX7_hasKind 16 = .ok (.goto 4, 3) := by decide +kernel
theorem dX7_hasKind_19 : decode cX7_hasKind 19 = .ok (.iconst 0, 1) := by decide +kernel
theorem dX7_hasKind_20 : decode cX7_hasKind 20 = .ok (.ireturn, 1) := by decide +kernel
set_option maxHeartbeats 4000000 in
set_option maxRecDepth 100000 in
theorem m_X7_hasKind (l : Launch) (k : Int) (mem : Mem) (hk : i32 k) (hN : 0 ≤ mem 21 0 ∧ mem 21 0 ≤ 8) : Ret shp l yX7_hasKind cX7_hasKind 2 (some .boolean) 0 [pR 20, pI k] mem (fun rv mv => rv = some (pI (if 0 ≤ k ∧ k < mem 21 0 then 1 else 0)) ∧ mem = mv) := by
  refine ret_of (by decide +kernel) (Nat.le_of_ble_eq_true rfl) (fun X hX F G => ?_)
  show Ok shp X 2 0 [(0, pR 20), (1, pI k)] [] mem
  refine ok_iload_n F dX7_hasKind_0 1 rfl ?_
  refine ok_if_lt F 19 dX7_hasKind_1 (by decide) (by omega) (fun c_1 => ?_) (fun c_1 => ?_)
  · refine ok_iconst F dX7_hasKind_19 ?_
    refine ok_zret F G dX7_hasKind_20 (by first | rfl | exact zb_nar) ?_
    refine ⟨?_, rfl⟩
    first | rw [if_pos (by omega)] | rw [if_neg (by omega)]
  · refine ok_iload_n F dX7_hasKind_4 1 rfl ?_
    refine ok_aload_n F dX7_hasKind_5 0 rfl ?_
    refine ok_getr F dX7_hasKind_6 kF_X7_10 sh_20 rfl ?_
    refine ok_getf (v := mem 21 0) F dX7_hasKind_9 kF_X7_103 sh_21 rfl rfl ?_
    refine ok_icmp_ge F 19 dX7_hasKind_12 (by decide) (by omega) (by omega) (fun c_2 => ?_) (fun c_2 => ?_)
    · refine ok_iconst F dX7_hasKind_19 ?_
      refine ok_zret F G dX7_hasKind_20 (by first | rfl | exact zb_nar) ?_
      refine ⟨?_, rfl⟩
      first | rw [if_pos (by omega)] | rw [if_neg (by omega)]
    · refine ok_iconst F dX7_hasKind_15 ?_
      refine ok_goto F 20 dX7_hasKind_16 (by decide) ?_
      refine ok_zret F G dX7_hasKind_20 (by first | rfl | exact zb_nar) ?_
      refine ⟨?_, rfl⟩
      first | rw [if_pos (by omega)] | rw [if_neg (by omega)]
theorem dX7_isKindOrNone_0 : decode cX7_isKindOrNone 0 = .ok (.iload_n 1, 1) := by decide +kernel
theorem dX7_isKindOrNone_1 : decode cX7_isKindOrNone 1 = .ok (.iconst (-1), 1) := by decide +kernel
theorem dX7_isKindOrNone_2 : decode cX7_isKindOrNone 2 = .ok (.if_icmp .eq 11, 3) := by decide +kernel
theorem dX7_isKindOrNone_5 : decode cX7_isKindOrNone 5 = .ok (.aload_n 0, 1) := by decide +kernel
theorem dX7_isKindOrNone_6 : decode cX7_isKindOrNone 6 = .ok (.iload_n 1, 1) := by decide +kernel
theorem dX7_isKindOrNone_7 : decode cX7_isKindOrNone 7 = .ok (.invokevirtual 106, 3) := by decide +kernel
theorem dX7_isKindOrNone_10 : decode cX7_isKindOrNone 10 = .ok (.ifCond .eq 7, 3) := by decide +kernel
theorem dX7_isKindOrNone_13 : decode cX7_isKindOrNone 13 = .ok (.iconst 1, 1) := by decide +kernel
theorem dX7_isKindOrNone_14 : decode cX7_isKindOrNone 14 = .ok (.goto 4, 3) := by decide +kernel
theorem dX7_isKindOrNone_17 : decode cX7_isKindOrNone 17 = .ok (.iconst 0, 1) := by decide +kernel
theorem dX7_isKindOrNone_18 : decode cX7_isKindOrNone 18 = .ok (.ireturn, 1) := by decide +kernel
set_option maxHeartbeats 4000000 in
set_option maxRecDepth 100000 in
theorem m_X7_isKindOrNone (l : Launch) (k : Int) (mem : Mem) (hk : i32 k) (hN : 0 ≤ mem 21 0 ∧ mem 21 0 ≤ 8) : Ret shp l yX7_isKindOrNone cX7_isKindOrNone 2 (some .boolean) 1 [pR 20, pI k] mem (fun rv mv => rv = some (pI (if k = -1 ∨ 0 ≤ k ∧ k < mem 21 0 then 1 else 0)) ∧ mem = mv) := by
  refine ret_of (by decide +kernel) (Nat.le_of_ble_eq_true rfl) (fun X hX F G => ?_)
  show Ok shp X 2 0 [(0, pR 20), (1, pI k)] [] mem
  refine ok_iload_n F dX7_isKindOrNone_0 1 rfl ?_
  refine ok_iconst F dX7_isKindOrNone_1 ?_
  refine ok_icmp_eq F 13 dX7_isKindOrNone_2 (by decide) (by omega) (by omega) (fun c_1 => ?_) (fun c_1 => ?_)
  · refine ok_iconst F dX7_isKindOrNone_13 ?_
    refine ok_goto F 18 dX7_isKindOrNone_14 (by decide) ?_
    refine ok_zret F G dX7_isKindOrNone_18 (by first | rfl | exact zb_nar) ?_
    refine ⟨?_, rfl⟩
    first | rw [if_pos (by omega)] | rw [if_neg (by omega)]
  · refine ok_aload_n F dX7_isKindOrNone_5 0 rfl ?_
    refine ok_iload_n F dX7_isKindOrNone_6 1 rfl ?_
    refine ok_callv F [pI k] dX7_isKindOrNone_7 kM_X7_hasKind kI_X7_hasKind kV_X7_hasKind kL_X7_106 (ci := 7) rfl sh_20 rfl (by decide) (Nat.le_of_ble_eq_true rfl) rfl (m_X7_hasKind _ k mem (by omega) (by omega)) ?_
    rintro _ _ ⟨rfl, rfl⟩
    refine ok_if_eq F 17 dX7_isKindOrNone_10 (by decide) (by omega) (fun c_2 => ?_) (fun c_2 => ?_)
    · refine ok_iconst F dX7_isKindOrNone_17 ?_
      refine ok_zret F G dX7_isKindOrNone_18 (by first | rfl | exact zb_nar) ?_
      refine ⟨?_, rfl⟩
      first | rw [if_pos (by omega)] | rw [if_neg (by omega)]
    · refine ok_iconst F dX7_isKindOrNone_13 ?_
      refine ok_goto F 18 dX7_isKindOrNone_14 (by decide) ?_
      refine ok_zret F G dX7_isKindOrNone_18 (by first | rfl | exact zb_nar) ?_
      refine ⟨?_, rfl⟩
      first | rw [if_pos (by omega)] | rw [if_neg (by omega)]
theorem dX7_hasDay_0 : decode cX7_hasDay 0 = .ok (.iload_n 1, 1) := by decide +kernel
theorem dX7_hasDay_1 : decode cX7_hasDay 1 = .ok (.ifCond .lt 18, 3) := by decide +kernel
theorem dX7_hasDay_4 : decode cX7_hasDay 4 = .ok (.iload_n 1, 1) := by decide +kernel
theorem dX7_hasDay_5 : decode cX7_hasDay 5 = .ok (.aload_n 0, 1) := by decide +kernel
theorem dX7_hasDay_6 : decode cX7_hasDay 6 = .ok (.getfield 10, 3) := by decide +kernel
theorem dX7_hasDay_9 : decode cX7_hasDay 9 = .ok (.getfield 176, 3) := by decide +kernel
theorem dX7_hasDay_12 : decode cX7_hasDay 12 = .ok (.if_icmp .ge 7, 3) := by decide +kernel
theorem dX7_hasDay_15 : decode cX7_hasDay 15 = .ok (.iconst 1, 1) := by decide +kernel
theorem dX7_hasDay_16 : decode cX7_hasDay 16 = .ok (.goto 4, 3) := by decide +kernel
theorem dX7_hasDay_19 : decode cX7_hasDay 19 = .ok (.iconst 0, 1) := by decide +kernel
theorem dX7_hasDay_20 : decode cX7_hasDay 20 = .ok (.ireturn, 1) := by decide +kernel
set_option maxHeartbeats 4000000 in
set_option maxRecDepth 100000 in
theorem m_X7_hasDay (l : Launch) (d : Int) (mem : Mem) (hd : i32 d) (hN1 : 0 ≤ mem 21 1 ∧ mem 21 1 ≤ 5) : Ret shp l yX7_hasDay cX7_hasDay 2 (some .boolean) 0 [pR 20, pI d] mem (fun rv mv => rv = some (pI (if 0 ≤ d ∧ d < mem 21 1 then 1 else 0)) ∧ mem = mv) := by
  refine ret_of (by decide +kernel) (Nat.le_of_ble_eq_true rfl) (fun X hX F G => ?_)
  show Ok shp X 2 0 [(0, pR 20), (1, pI d)] [] mem
  refine ok_iload_n F dX7_hasDay_0 1 rfl ?_
  refine ok_if_lt F 19 dX7_hasDay_1 (by decide) (by omega) (fun c_1 => ?_) (fun c_1 => ?_)
  · refine ok_iconst F dX7_hasDay_19 ?_
    refine ok_zret F G dX7_hasDay_20 (by first | rfl | exact zb_nar) ?_
    refine ⟨?_, rfl⟩
    first | rw [if_pos (by omega)] | rw [if_neg (by omega)]
  · refine ok_iload_n F dX7_hasDay_4 1 rfl ?_
    refine ok_aload_n F dX7_hasDay_5 0 rfl ?_
    refine ok_getr F dX7_hasDay_6 kF_X7_10 sh_20 rfl ?_
    refine ok_getf (v := mem 21 1) F dX7_hasDay_9 kF_X7_176 sh_21 rfl rfl ?_
    refine ok_icmp_ge F 19 dX7_hasDay_12 (by decide) (by omega) (by omega) (fun c_2 => ?_) (fun c_2 => ?_)
    · refine ok_iconst F dX7_hasDay_19 ?_
      refine ok_zret F G dX7_hasDay_20 (by first | rfl | exact zb_nar) ?_
      refine ⟨?_, rfl⟩
      first | rw [if_pos (by omega)] | rw [if_neg (by omega)]
    · refine ok_iconst F dX7_hasDay_15 ?_
      refine ok_goto F 20 dX7_hasDay_16 (by decide) ?_
      refine ok_zret F G dX7_hasDay_20 (by first | rfl | exact zb_nar) ?_
      refine ⟨?_, rfl⟩
      first | rw [if_pos (by omega)] | rw [if_neg (by omega)]
theorem dX7_isPrice_0 : decode cX7_isPrice 0 = .ok (.iload_n 0, 1) := by decide +kernel
theorem dX7_isPrice_1 : decode cX7_isPrice 1 = .ok (.iconst 1, 1) := by decide +kernel
theorem dX7_isPrice_2 : decode cX7_isPrice 2 = .ok (.if_icmp .lt 14, 3) := by decide +kernel
theorem dX7_isPrice_5 : decode cX7_isPrice 5 = .ok (.iload_n 0, 1) := by decide +kernel
theorem dX7_isPrice_6 : decode cX7_isPrice 6 = .ok (.sipush 1000, 3) := by decide +kernel
theorem dX7_isPrice_9 : decode cX7_isPrice 9 = .ok (.if_icmp .gt 7, 3) := by decide +kernel
theorem dX7_isPrice_12 : decode cX7_isPrice 12 = .ok (.iconst 1, 1) := by decide +kernel
theorem dX7_isPrice_13 : decode cX7_isPrice 13 = .ok (.goto 4, 3) := by decide +kernel
theorem dX7_isPrice_16 : decode cX7_isPrice 16 = .ok (.iconst 0, 1) := by decide +kernel
theorem dX7_isPrice_17 : decode cX7_isPrice 17 = .ok (.ireturn, 1) := by decide +kernel
set_option maxHeartbeats 4000000 in
set_option maxRecDepth 100000 in
theorem m_X7_isPrice (l : Launch) (a : Int) (mem : Mem) (ha : i32 a) : Ret shp l yX7_isPrice cX7_isPrice 1 (some .boolean) 0 [pI a] mem (fun rv mv => rv = some (pI (if 1 ≤ a ∧ a ≤ 1000 then 1 else 0)) ∧ mem = mv) := by
  refine ret_of (by decide +kernel) (Nat.le_of_ble_eq_true rfl) (fun X hX F G => ?_)
  show Ok shp X 1 0 [(0, pI a)] [] mem
  refine ok_iload_n F dX7_isPrice_0 0 rfl ?_
  refine ok_iconst F dX7_isPrice_1 ?_
  refine ok_icmp_lt F 16 dX7_isPrice_2 (by decide) (by omega) (by omega) (fun c_1 => ?_) (fun c_1 => ?_)
  · refine ok_iconst F dX7_isPrice_16 ?_
    refine ok_zret F G dX7_isPrice_17 (by first | rfl | exact zb_nar) ?_
    refine ⟨?_, rfl⟩
    first | rw [if_pos (by omega)] | rw [if_neg (by omega)]
  · refine ok_iload_n F dX7_isPrice_5 0 rfl ?_
    refine ok_sipush F dX7_isPrice_6 rfl ?_
    refine ok_icmp_gt F 16 dX7_isPrice_9 (by decide) (by omega) (by omega) (fun c_2 => ?_) (fun c_2 => ?_)
    · refine ok_iconst F dX7_isPrice_16 ?_
      refine ok_zret F G dX7_isPrice_17 (by first | rfl | exact zb_nar) ?_
      refine ⟨?_, rfl⟩
      first | rw [if_pos (by omega)] | rw [if_neg (by omega)]
    · refine ok_iconst F dX7_isPrice_12 ?_
      refine ok_goto F 17 dX7_isPrice_13 (by decide) ?_
      refine ok_zret F G dX7_isPrice_17 (by first | rfl | exact zb_nar) ?_
      refine ⟨?_, rfl⟩
      first | rw [if_pos (by omega)] | rw [if_neg (by omega)]
theorem dX7_isAmount_0 : decode cX7_isAmount 0 = .ok (.iload_n 0, 1) := by decide +kernel
theorem dX7_isAmount_1 : decode cX7_isAmount 1 = .ok (.ifCond .lt 14, 3) := by decide +kernel
theorem dX7_isAmount_4 : decode cX7_isAmount 4 = .ok (.iload_n 0, 1) := by decide +kernel
theorem dX7_isAmount_5 : decode cX7_isAmount 5 = .ok (.sipush 2500, 3) := by decide +kernel
theorem dX7_isAmount_8 : decode cX7_isAmount 8 = .ok (.if_icmp .gt 7, 3) := by decide +kernel
theorem dX7_isAmount_11 : decode cX7_isAmount 11 = .ok (.iconst 1, 1) := by decide +kernel
theorem dX7_isAmount_12 : decode cX7_isAmount 12 = .ok (.goto 4, 3) := by decide +kernel
theorem dX7_isAmount_15 : decode cX7_isAmount 15 = .ok (.iconst 0, 1) := by decide +kernel
theorem dX7_isAmount_16 : decode cX7_isAmount 16 = .ok (.ireturn, 1) := by decide +kernel
set_option maxHeartbeats 4000000 in
set_option maxRecDepth 100000 in
theorem m_X7_isAmount (l : Launch) (a : Int) (mem : Mem) (ha : i32 a) : Ret shp l yX7_isAmount cX7_isAmount 1 (some .boolean) 0 [pI a] mem (fun rv mv => rv = some (pI (if 0 ≤ a ∧ a ≤ 2500 then 1 else 0)) ∧ mem = mv) := by
  refine ret_of (by decide +kernel) (Nat.le_of_ble_eq_true rfl) (fun X hX F G => ?_)
  show Ok shp X 1 0 [(0, pI a)] [] mem
  refine ok_iload_n F dX7_isAmount_0 0 rfl ?_
  refine ok_if_lt F 15 dX7_isAmount_1 (by decide) (by omega) (fun c_1 => ?_) (fun c_1 => ?_)
  · refine ok_iconst F dX7_isAmount_15 ?_
    refine ok_zret F G dX7_isAmount_16 (by first | rfl | exact zb_nar) ?_
    refine ⟨?_, rfl⟩
    first | rw [if_pos (by omega)] | rw [if_neg (by omega)]
  · refine ok_iload_n F dX7_isAmount_4 0 rfl ?_
    refine ok_sipush F dX7_isAmount_5 rfl ?_
    refine ok_icmp_gt F 15 dX7_isAmount_8 (by decide) (by omega) (by omega) (fun c_2 => ?_) (fun c_2 => ?_)
    · refine ok_iconst F dX7_isAmount_15 ?_
      refine ok_zret F G dX7_isAmount_16 (by first | rfl | exact zb_nar) ?_
      refine ⟨?_, rfl⟩
      first | rw [if_pos (by omega)] | rw [if_neg (by omega)]
    · refine ok_iconst F dX7_isAmount_11 ?_
      refine ok_goto F 16 dX7_isAmount_12 (by decide) ?_
      refine ok_zret F G dX7_isAmount_16 (by first | rfl | exact zb_nar) ?_
      refine ⟨?_, rfl⟩
      first | rw [if_pos (by omega)] | rw [if_neg (by omega)]
theorem dX6_firstSale_0 : decode cX6_firstSale 0 = .ok (.iload_n 1, 1) := by decide +kernel
theorem dX6_firstSale_1 : decode cX6_firstSale 1 = .ok (.iconst 1, 1) := by decide +kernel
theorem dX6_firstSale_2 : decode cX6_firstSale 2 = .ok (.if_icmp .lt 8, 3) := by decide +kernel
theorem dX6_firstSale_5 : decode cX6_firstSale 5 = .ok (.iload_n 1, 1) := by decide +kernel
theorem dX6_firstSale_6 : decode cX6_firstSale 6 = .ok (.iconst 5, 1) := by decide +kernel
theorem dX6_firstSale_7 : decode cX6_firstSale 7 = .ok (.if_icmp .le 7, 3) := by decide +kernel
theorem dX6_firstSale_10 : decode cX6_firstSale 10 = .ok (.iconst 0, 1) := by decide +kernel
theorem dX6_firstSale_11 : decode cX6_firstSale 11 = .ok (.goto 11, 3) := by decide +kernel
theorem dX6_firstSale_14 : decode cX6_firstSale 14 = .ok (.aload_n 0, 1) := by decide +kernel
theorem dX6_firstSale_15 : decode cX6_firstSale 15 = .ok (.getfield 33, 3) := by decide +kernel
theorem dX6_firstSale_18 : decode cX6_firstSale 18 = .ok (.iload_n 1, 1) := by decide +kernel
theorem dX6_firstSale_19 : decode cX6_firstSale 19 = .ok (.iconst 1, 1) := by decide +kernel
theorem dX6_firstSale_20 : decode cX6_firstSale 20 = .ok (.isub, 1) := by decide +kernel
theorem dX6_firstSale_21 : decode cX6_firstSale 21 = .ok (.iaload, 1) := by decide +kernel
theorem dX6_firstSale_22 : decode cX6_firstSale 22 = .ok (.ireturn, 1) := by decide +kernel
set_option maxHeartbeats 4000000 in
set_option maxRecDepth 100000 in
theorem m_X6_firstSale_21 (l : Launch) (d : Int) (mem : Mem) (hd : i32 d) : Ret shp l yX6_firstSale cX6_firstSale 2 (some .int) 0 [pR 21, pI d] mem (fun rv mv => rv = some (pI (fstD (mem 29) d)) ∧ mem = mv) := by
  refine ret_of (by decide +kernel) (Nat.le_of_ble_eq_true rfl) (fun X hX F G => ?_)
  show Ok shp X 2 0 [(0, pR 21), (1, pI d)] [] mem
  refine ok_iload_n F dX6_firstSale_0 1 rfl ?_
  refine ok_iconst F dX6_firstSale_1 ?_
  refine ok_icmp_lt F 10 dX6_firstSale_2 (by decide) (by omega) (by omega) (fun c_1 => ?_) (fun c_1 => ?_)
  · refine ok_iconst F dX6_firstSale_10 ?_
    refine ok_goto F 22 dX6_firstSale_11 (by decide) ?_
    refine ok_iret F G dX6_firstSale_22 ?_
    refine ⟨?_, rfl⟩
    unfold fstD
    first | rw [if_pos (by omega)] | rw [if_neg (by omega)]
  · refine ok_iload_n F dX6_firstSale_5 1 rfl ?_
    refine ok_iconst F dX6_firstSale_6 ?_
    refine ok_icmp_le F 14 dX6_firstSale_7 (by decide) (by omega) (by omega) (fun c_2 => ?_) (fun c_2 => ?_)
    · refine ok_aload_n F dX6_firstSale_14 0 rfl ?_
      refine ok_getr F dX6_firstSale_15 kF_X6_33 sh_21 rfl ?_
      refine ok_iload_n F dX6_firstSale_18 1 rfl ?_
      refine ok_iconst F dX6_firstSale_19 ?_
      refine ok_isub F dX6_firstSale_20 ?_
      refine ok_iald (v := mem 29 ((d - 1).toNat)) F dX6_firstSale_21 sh_29 (by first | decide | assumption) (by omega) (by omega) rfl ?_
      refine ok_iret F G dX6_firstSale_22 ?_
      refine ⟨?_, rfl⟩
      unfold fstD
      first | rw [if_pos (by omega)] | rw [if_neg (by omega)]
    · refine ok_iconst F dX6_firstSale_10 ?_
      refine ok_goto F 22 dX6_firstSale_11 (by decide) ?_
      refine ok_iret F G dX6_firstSale_22 ?_
      refine ⟨?_, rfl⟩
      unfold fstD
      first | rw [if_pos (by omega)] | rw [if_neg (by omega)]
set_option maxHeartbeats 4000000 in
set_option maxRecDepth 100000 in
theorem m_X6_firstSale_32 (l : Launch) (d : Int) (mem : Mem) (hd : i32 d) : Ret shp l yX6_firstSale cX6_firstSale 2 (some .int) 0 [pR 32, pI d] mem (fun rv mv => rv = some (pI (fstD (mem 40) d)) ∧ mem = mv) := by
  refine ret_of (by decide +kernel) (Nat.le_of_ble_eq_true rfl) (fun X hX F G => ?_)
  show Ok shp X 2 0 [(0, pR 32), (1, pI d)] [] mem
  refine ok_iload_n F dX6_firstSale_0 1 rfl ?_
  refine ok_iconst F dX6_firstSale_1 ?_
  refine ok_icmp_lt F 10 dX6_firstSale_2 (by decide) (by omega) (by omega) (fun c_1 => ?_) (fun c_1 => ?_)
  · refine ok_iconst F dX6_firstSale_10 ?_
    refine ok_goto F 22 dX6_firstSale_11 (by decide) ?_
    refine ok_iret F G dX6_firstSale_22 ?_
    refine ⟨?_, rfl⟩
    unfold fstD
    first | rw [if_pos (by omega)] | rw [if_neg (by omega)]
  · refine ok_iload_n F dX6_firstSale_5 1 rfl ?_
    refine ok_iconst F dX6_firstSale_6 ?_
    refine ok_icmp_le F 14 dX6_firstSale_7 (by decide) (by omega) (by omega) (fun c_2 => ?_) (fun c_2 => ?_)
    · refine ok_aload_n F dX6_firstSale_14 0 rfl ?_
      refine ok_getr F dX6_firstSale_15 kF_X6_33 sh_32 rfl ?_
      refine ok_iload_n F dX6_firstSale_18 1 rfl ?_
      refine ok_iconst F dX6_firstSale_19 ?_
      refine ok_isub F dX6_firstSale_20 ?_
      refine ok_iald (v := mem 40 ((d - 1).toNat)) F dX6_firstSale_21 sh_40 (by first | decide | assumption) (by omega) (by omega) rfl ?_
      refine ok_iret F G dX6_firstSale_22 ?_
      refine ⟨?_, rfl⟩
      unfold fstD
      first | rw [if_pos (by omega)] | rw [if_neg (by omega)]
    · refine ok_iconst F dX6_firstSale_10 ?_
      refine ok_goto F 22 dX6_firstSale_11 (by decide) ?_
      refine ok_iret F G dX6_firstSale_22 ?_
      refine ⟨?_, rfl⟩
      unfold fstD
      first | rw [if_pos (by omega)] | rw [if_neg (by omega)]
theorem dX6_salesOf_0 : decode cX6_salesOf 0 = .ok (.iload_n 1, 1) := by decide +kernel
theorem dX6_salesOf_1 : decode cX6_salesOf 1 = .ok (.ifCond .lt 11, 3) := by decide +kernel
theorem dX6_salesOf_4 : decode cX6_salesOf 4 = .ok (.iload_n 1, 1) := by decide +kernel
theorem dX6_salesOf_5 : decode cX6_salesOf 5 = .ok (.aload_n 0, 1) := by decide +kernel
theorem dX6_salesOf_6 : decode cX6_salesOf 6 = .ok (.getfield 46, 3) := by decide +kernel
theorem dX6_salesOf_9 : decode cX6_salesOf 9 = .ok (.if_icmp .lt 7, 3) := by decide +kernel
theorem dX6_salesOf_12 : decode cX6_salesOf 12 = .ok (.iconst 0, 1) := by decide +kernel
theorem dX6_salesOf_13 : decode cX6_salesOf 13 = .ok (.goto 15, 3) := by decide +kernel
theorem dX6_salesOf_16 : decode cX6_salesOf 16 = .ok (.aload_n 0, 1) := by decide +kernel
theorem dX6_salesOf_17 : decode cX6_salesOf 17 = .ok (.getfield 33, 3) := by decide +kernel
theorem dX6_salesOf_20 : decode cX6_salesOf 20 = .ok (.iload_n 1, 1) := by decide +kernel
theorem dX6_salesOf_21 : decode cX6_salesOf 21 = .ok (.iaload, 1) := by decide +kernel
theorem dX6_salesOf_22 : decode cX6_salesOf 22 = .ok (.aload_n 0, 1) := by decide +kernel
theorem dX6_salesOf_23 : decode cX6_salesOf 23 = .ok (.iload_n 1, 1) := by decide +kernel
theorem dX6_salesOf_24 : decode cX6_salesOf 24 = .ok (.invokevirtual 53, 3) := by decide +kernel
theorem dX6_salesOf_27 : decode cX6_salesOf 27 = .ok (.isub, 1) := by decide +kernel
theorem dX6_salesOf_28 : decode cX6_salesOf 28 = .ok (.ireturn, 1) := by decide +kernel
set_option maxHeartbeats 4000000 in
set_option maxRecDepth 100000 in
theorem m_X6_salesOf_21 (l : Launch) (d : Int) (mem : Mem) (hd : i32 d) (hN1 : 0 ≤ mem 21 1 ∧ mem 21 1 ≤ 5) : Ret shp l yX6_salesOf cX6_salesOf 2 (some .int) 1 [pR 21, pI d] mem (fun rv mv => rv = some (pI (nsaD (mem 29) (mem 21 1) d)) ∧ mem = mv) := by
  refine ret_of (by decide +kernel) (Nat.le_of_ble_eq_true rfl) (fun X hX F G => ?_)
  show Ok shp X 2 0 [(0, pR 21), (1, pI d)] [] mem
  refine ok_iload_n F dX6_salesOf_0 1 rfl ?_
  refine ok_if_lt F 12 dX6_salesOf_1 (by decide) (by omega) (fun c_1 => ?_) (fun c_1 => ?_)
  · refine ok_iconst F dX6_salesOf_12 ?_
    refine ok_goto F 28 dX6_salesOf_13 (by decide) ?_
    refine ok_iret F G dX6_salesOf_28 ?_
    refine ⟨?_, rfl⟩
    unfold nsaD
    first | rw [if_pos (by omega)] | rw [if_neg (by omega)]
  · refine ok_iload_n F dX6_salesOf_4 1 rfl ?_
    refine ok_aload_n F dX6_salesOf_5 0 rfl ?_
    refine ok_getf (v := mem 21 1) F dX6_salesOf_6 kF_X6_46 sh_21 rfl rfl ?_
    refine ok_icmp_lt F 16 dX6_salesOf_9 (by decide) (by omega) (by omega) (fun c_2 => ?_) (fun c_2 => ?_)
    · refine ok_aload_n F dX6_salesOf_16 0 rfl ?_
      refine ok_getr F dX6_salesOf_17 kF_X6_33 sh_21 rfl ?_
      refine ok_iload_n F dX6_salesOf_20 1 rfl ?_
      refine ok_iald (v := mem 29 d.toNat) F dX6_salesOf_21 sh_29 (by first | decide | assumption) (by omega) (by omega) rfl ?_
      refine ok_aload_n F dX6_salesOf_22 0 rfl ?_
      refine ok_iload_n F dX6_salesOf_23 1 rfl ?_
      refine ok_callv F [pI d] dX6_salesOf_24 kM_X6_firstSale kI_X6_firstSale kV_X6_firstSale kL_X6_53 (ci := 6) rfl sh_21 rfl (by decide) (Nat.le_of_ble_eq_true rfl) rfl (m_X6_firstSale_21 _ d mem (by omega)) ?_
      rintro _ _ ⟨rfl, rfl⟩
      refine ok_isub F dX6_salesOf_27 ?_
      refine ok_iret F G dX6_salesOf_28 ?_
      refine ⟨?_, rfl⟩
      unfold nsaD
      first | rw [if_pos (by omega)] | rw [if_neg (by omega)]
    · refine ok_iconst F dX6_salesOf_12 ?_
      refine ok_goto F 28 dX6_salesOf_13 (by decide) ?_
      refine ok_iret F G dX6_salesOf_28 ?_
      refine ⟨?_, rfl⟩
      unfold nsaD
      first | rw [if_pos (by omega)] | rw [if_neg (by omega)]
theorem dX6_allSales_0 : decode cX6_allSales 0 = .ok (.aload_n 0, 1) := by decide +kernel
theorem dX6_allSales_1 : decode cX6_allSales 1 = .ok (.aload_n 0, 1) := by decide +kernel
theorem dX6_allSales_2 : decode cX6_allSales 2 = .ok (.getfield 46, 3) := by decide +kernel
theorem dX6_allSales_5 : decode cX6_allSales 5 = .ok (.invokevirtual 53, 3) := by decide +kernel
theorem dX6_allSales_8 : decode cX6_allSales 8 = .ok (.ireturn, 1) := by decide +kernel
set_option maxHeartbeats 4000000 in
set_option maxRecDepth 100000 in
theorem m_X6_allSales_21 (l : Launch) (mem : Mem) (hN1 : 0 ≤ mem 21 1 ∧ mem 21 1 ≤ 5) : Ret shp l yX6_allSales cX6_allSales 1 (some .int) 1 [pR 21] mem (fun rv mv => rv = some (pI (fstD (mem 29) (mem 21 1))) ∧ mem = mv) := by
  refine ret_of (by decide +kernel) (Nat.le_of_ble_eq_true rfl) (fun X hX F G => ?_)
  show Ok shp X 1 0 [(0, pR 21)] [] mem
  refine ok_aload_n F dX6_allSales_0 0 rfl ?_
  refine ok_aload_n F dX6_allSales_1 0 rfl ?_
  refine ok_getf (v := mem 21 1) F dX6_allSales_2 kF_X6_46 sh_21 rfl rfl ?_
  refine ok_callv F [pI (mem 21 1)] dX6_allSales_5 kM_X6_firstSale kI_X6_firstSale kV_X6_firstSale kL_X6_53 (ci := 6) rfl sh_21 rfl (by decide) (Nat.le_of_ble_eq_true rfl) rfl (m_X6_firstSale_21 _ (mem 21 1) mem (by omega)) ?_
  rintro _ _ ⟨rfl, rfl⟩
  refine ok_iret F G dX6_allSales_8 ?_
  first | exact ⟨rfl, rfl⟩ | (exfalso; omega)
set_option maxHeartbeats 4000000 in
set_option maxRecDepth 100000 in
theorem m_X6_allSales_32 (l : Launch) (mem : Mem) (hN1 : 0 ≤ mem 32 1 ∧ mem 32 1 ≤ 5) : Ret shp l yX6_allSales cX6_allSales 1 (some .int) 1 [pR 32] mem (fun rv mv => rv = some (pI (fstD (mem 40) (mem 32 1))) ∧ mem = mv) := by
  refine ret_of (by decide +kernel) (Nat.le_of_ble_eq_true rfl) (fun X hX F G => ?_)
  show Ok shp X 1 0 [(0, pR 32)] [] mem
  refine ok_aload_n F dX6_allSales_0 0 rfl ?_
  refine ok_aload_n F dX6_allSales_1 0 rfl ?_
  refine ok_getf (v := mem 32 1) F dX6_allSales_2 kF_X6_46 sh_32 rfl rfl ?_
  refine ok_callv F [pI (mem 32 1)] dX6_allSales_5 kM_X6_firstSale kI_X6_firstSale kV_X6_firstSale kL_X6_53 (ci := 6) rfl sh_32 rfl (by decide) (Nat.le_of_ble_eq_true rfl) rfl (m_X6_firstSale_32 _ (mem 32 1) mem (by omega)) ?_
  rintro _ _ ⟨rfl, rfl⟩
  refine ok_iret F G dX6_allSales_8 ?_
  first | exact ⟨rfl, rfl⟩ | (exfalso; omega)
theorem dX6_piecesOf_0 : decode cX6_piecesOf 0 = .ok (.iconst 0, 1) := by decide +kernel
theorem dX6_piecesOf_1 : decode cX6_piecesOf 1 = .ok (.istore_n 2, 1) := by decide +kernel
theorem dX6_piecesOf_2 : decode cX6_piecesOf 2 = .ok (.iconst 0, 1) := by decide +kernel
theorem dX6_piecesOf_3 : decode cX6_piecesOf 3 = .ok (.istore_n 3, 1) := by decide +kernel
theorem dX6_piecesOf_4 : decode cX6_piecesOf 4 = .ok (.iload_n 3, 1) := by decide +kernel
theorem dX6_piecesOf_5 : decode cX6_piecesOf 5 = .ok (.aload_n 0, 1) := by decide +kernel
theorem dX6_piecesOf_6 : decode cX6_piecesOf 6 = .ok (.getfield 42, 3) := by decide +kernel
theorem dX6_piecesOf_9 : decode cX6_piecesOf 9 = .ok (.if_icmp .ge 15, 3) := by decide +kernel
theorem dX6_piecesOf_12 : decode cX6_piecesOf 12 = .ok (.iload_n 2, 1) := by decide +kernel
theorem dX6_piecesOf_13 : decode cX6_piecesOf 13 = .ok (.aload_n 1, 1) := by decide +kernel
theorem dX6_piecesOf_14 : decode cX6_piecesOf 14 = .ok (.iload_n 3, 1) := by decide +kernel
theorem dX6_piecesOf_15 : decode cX6_piecesOf 15 = .ok (.iaload, 1) := by decide +kernel
theorem dX6_piecesOf_16 : decode cX6_piecesOf 16 = .ok (.iadd, 1) := by decide +kernel
theorem dX6_piecesOf_17 : decode cX6_piecesOf 17 = .ok (.istore_n 2, 1) := by decide +kernel
theorem dX6_piecesOf_18 : decode cX6_piecesOf 18 = .ok (.iinc 3 1, 3) := by decide +kernel
theorem dX6_piecesOf_21 : decode cX6_piecesOf 21 = .ok (.goto (-17), 3) := by decide +kernel
theorem dX6_piecesOf_24 : decode cX6_piecesOf 24 = .ok (.iload_n 2, 1) := by decide +kernel
theorem dX6_piecesOf_25 : decode cX6_piecesOf 25 = .ok (.ireturn, 1) := by decide +kernel
set_option maxHeartbeats 4000000 in
set_option maxRecDepth 100000 in
theorem m_X6_piecesOf (l : Launch) (R : Nat) (mem : Mem) (hR : shp[R]? = some (.inr (.inl (0, 8)))) (hN : 0 ≤ mem 21 0 ∧ mem 21 0 ≤ 8) : Ret shp l yX6_piecesOf cX6_piecesOf 4 (some .int) 0 [pR 21, pR R] mem (fun rv mv => rv = some (pI (sumN (mem R) (mem 21 0).toNat)) ∧ mem = mv) := by
  refine ret_of (by decide +kernel) (Nat.le_of_ble_eq_true rfl) (fun X hX F G => ?_)
  show Ok shp X 4 0 [(0, pR 21), (1, pR R)] [] mem
  refine ok_iconst F dX6_piecesOf_0 ?_
  refine ok_istore_n (lv' := [(2, pI 0), (0, pR 21), (1, pR R)]) F dX6_piecesOf_1 (by decide) rfl ?_
  refine ok_iconst F dX6_piecesOf_2 ?_
  refine ok_istore_n (lv' := [(3, pI 0), (2, pI 0), (0, pR 21), (1, pR R)]) F dX6_piecesOf_3 (by decide) rfl ?_
  have hL_4 : ∀ (n_4 : Nat) (n2 : Int) (k : Int), (0 ≤ k ∧ k ≤ mem 21 0 ∧ n2 = sumN (mem R) k.toNat) → (mem 21 0 - k).toNat = n_4 → Ok shp X 4 4 [(0, pR 21), (1, pR R), (2, pI n2), (3, pI k)] [] mem := by
    intro n_4
    induction n_4 using Nat.strongRecOn with
    | _ n_4 ih_4 =>
      intro n2 k hI_4 hn_4
      refine ok_iload_n F dX6_piecesOf_4 3 rfl ?_
      refine ok_aload_n F dX6_piecesOf_5 0 rfl ?_
      refine ok_getf (v := mem 21 0) F dX6_piecesOf_6 kF_X6_42 sh_21 rfl rfl ?_
      refine ok_icmp_ge F 24 dX6_piecesOf_9 (by decide) (by omega) (by omega) (fun c_1 => ?_) (fun c_1 => ?_)
      · refine ok_iload_n F dX6_piecesOf_24 2 rfl ?_
        refine ok_iret F G dX6_piecesOf_25 ?_
        refine ⟨?_, rfl⟩
        rw [hI_4.2.2, show k = mem 21 0 by omega]
      · refine ok_iload_n F dX6_piecesOf_12 2 rfl ?_
        refine ok_aload_n F dX6_piecesOf_13 1 rfl ?_
        refine ok_iload_n F dX6_piecesOf_14 3 rfl ?_
        refine ok_iald (v := mem R k.toNat) F dX6_piecesOf_15 hR (by first | decide | assumption) (by omega) (by omega) rfl ?_
        refine ok_iadd F dX6_piecesOf_16 ?_
        refine ok_istore_n (lv' := [(2, pI (n2 + (mem R k.toNat))), (0, pR 21), (1, pR R), (3, pI k)]) F dX6_piecesOf_17 (by decide) rfl ?_
        refine ok_iinc (lv' := [(3, pI (k + 1)), (2, pI (n2 + (mem R k.toNat))), (0, pR 21), (1, pR R)]) F dX6_piecesOf_18 3 rfl (by decide) rfl ?_
        refine ok_goto F 4 dX6_piecesOf_21 (by decide) ?_
        refine ok_lvp [2, 3, 1, 0] (lv' := [(0, pR 21), (1, pR R), (2, pI (n2 + (mem R k.toNat))), (3, pI (k + 1))]) rfl ?_
        refine ih_4 _ ?_ (n2 + (mem R k.toNat)) (k + 1) ?_ rfl
        · omega
        · refine ⟨by omega, by omega, ?_⟩
          rw [sumN_s _ hI_4.1, hI_4.2.2]
  refine ok_lvp [2, 3, 1, 0] (lv' := [(0, pR 21), (1, pR R), (2, pI 0), (3, pI 0)]) rfl ?_
  refine hL_4 _ 0 0 ?_ rfl
  exact ⟨by omega, by omega, rfl⟩
theorem dX6_worthOf_0 : decode cX6_worthOf 0 = .ok (.iconst 0, 1) := by decide +kernel
theorem dX6_worthOf_1 : decode cX6_worthOf 1 = .ok (.istore_n 2, 1) := by decide +kernel
theorem dX6_worthOf_2 : decode cX6_worthOf 2 = .ok (.iconst 0, 1) := by decide +kernel
theorem dX6_worthOf_3 : decode cX6_worthOf 3 = .ok (.istore_n 3, 1) := by decide +kernel
theorem dX6_worthOf_4 : decode cX6_worthOf 4 = .ok (.iload_n 3, 1) := by decide +kernel
theorem dX6_worthOf_5 : decode cX6_worthOf 5 = .ok (.aload_n 0, 1) := by decide +kernel
theorem dX6_worthOf_6 : decode cX6_worthOf 6 = .ok (.getfield 42, 3) := by decide +kernel
theorem dX6_worthOf_9 : decode cX6_worthOf 9 = .ok (.if_icmp .ge 22, 3) := by decide +kernel
theorem dX6_worthOf_12 : decode cX6_worthOf 12 = .ok (.iload_n 2, 1) := by decide +kernel
theorem dX6_worthOf_13 : decode cX6_worthOf 13 = .ok (.aload_n 1, 1) := by decide +kernel
theorem dX6_worthOf_14 : decode cX6_worthOf 14 = .ok (.iload_n 3, 1) := by decide +kernel
theorem dX6_worthOf_15 : decode cX6_worthOf 15 = .ok (.iaload, 1) := by decide +kernel
theorem dX6_worthOf_16 : decode cX6_worthOf 16 = .ok (.aload_n 0, 1) := by decide +kernel
theorem dX6_worthOf_17 : decode cX6_worthOf 17 = .ok (.getfield 9, 3) := by decide +kernel
theorem dX6_worthOf_20 : decode cX6_worthOf 20 = .ok (.iload_n 3, 1) := by decide +kernel
theorem dX6_worthOf_21 : decode cX6_worthOf 21 = .ok (.iaload, 1) := by decide +kernel
theorem dX6_worthOf_22 : decode cX6_worthOf 22 = .ok (.imul, 1) := by decide +kernel
theorem dX6_worthOf_23 : decode cX6_worthOf 23 = .ok (.iadd, 1) := by decide +kernel
theorem dX6_worthOf_24 : decode cX6_worthOf 24 = .ok (.istore_n 2, 1) := by decide +kernel
theorem dX6_worthOf_25 : decode cX6_worthOf 25 = .ok (.iinc 3 1, 3) := by decide +kernel
theorem dX6_worthOf_28 : decode cX6_worthOf 28 = .ok (.goto (-24), 3) := by decide +kernel
theorem dX6_worthOf_31 : decode cX6_worthOf 31 = .ok (.iload_n 2, 1) := by decide +kernel
theorem dX6_worthOf_32 : decode cX6_worthOf 32 = .ok (.ireturn, 1) := by decide +kernel
set_option maxHeartbeats 4000000 in
set_option maxRecDepth 100000 in
theorem m_X6_worthOf (l : Launch) (R : Nat) (mem : Mem) (hR : shp[R]? = some (.inr (.inl (0, 8)))) (hN : 0 ≤ mem 21 0 ∧ mem 21 0 ≤ 8) : Ret shp l yX6_worthOf cX6_worthOf 4 (some .int) 0 [pR 21, pR R] mem (fun rv mv => rv = some (pI (sumN (fun k => mem R k * mem 22 k) (mem 21 0).toNat)) ∧ mem = mv) := by
  refine ret_of (by decide +kernel) (Nat.le_of_ble_eq_true rfl) (fun X hX F G => ?_)
  show Ok shp X 4 0 [(0, pR 21), (1, pR R)] [] mem
  refine ok_iconst F dX6_worthOf_0 ?_
  refine ok_istore_n (lv' := [(2, pI 0), (0, pR 21), (1, pR R)]) F dX6_worthOf_1 (by decide) rfl ?_
  refine ok_iconst F dX6_worthOf_2 ?_
  refine ok_istore_n (lv' := [(3, pI 0), (2, pI 0), (0, pR 21), (1, pR R)]) F dX6_worthOf_3 (by decide) rfl ?_
  have hL_4 : ∀ (n_4 : Nat) (n2 : Int) (k : Int), (0 ≤ k ∧ k ≤ mem 21 0 ∧ n2 = sumN (fun k => mem R k * mem 22 k) k.toNat) → (mem 21 0 - k).toNat = n_4 → Ok shp X 4 4 [(0, pR 21), (1, pR R), (2, pI n2), (3, pI k)] [] mem := by
    intro n_4
    induction n_4 using Nat.strongRecOn with
    | _ n_4 ih_4 =>
      intro n2 k hI_4 hn_4
      refine ok_iload_n F dX6_worthOf_4 3 rfl ?_
      refine ok_aload_n F dX6_worthOf_5 0 rfl ?_
      refine ok_getf (v := mem 21 0) F dX6_worthOf_6 kF_X6_42 sh_21 rfl rfl ?_
      refine ok_icmp_ge F 31 dX6_worthOf_9 (by decide) (by omega) (by omega) (fun c_1 => ?_) (fun c_1 => ?_)
      · refine ok_iload_n F dX6_worthOf_31 2 rfl ?_
        refine ok_iret F G dX6_worthOf_32 ?_
        refine ⟨?_, rfl⟩
        rw [hI_4.2.2, show k = mem 21 0 by omega]
      · refine ok_iload_n F dX6_worthOf_12 2 rfl ?_
        refine ok_aload_n F dX6_worthOf_13 1 rfl ?_
        refine ok_iload_n F dX6_worthOf_14 3 rfl ?_
        refine ok_iald (v := mem R k.toNat) F dX6_worthOf_15 hR (by first | decide | assumption) (by omega) (by omega) rfl ?_
        refine ok_aload_n F dX6_worthOf_16 0 rfl ?_
        refine ok_getr F dX6_worthOf_17 kF_X6_9 sh_21 rfl ?_
        refine ok_iload_n F dX6_worthOf_20 3 rfl ?_
        refine ok_iald (v := mem 22 k.toNat) F dX6_worthOf_21 sh_22 (by first | decide | assumption) (by omega) (by omega) rfl ?_
        refine ok_imul F dX6_worthOf_22 ?_
        refine ok_iadd F dX6_worthOf_23 ?_
        refine ok_istore_n (lv' := [(2, pI (n2 + ((mem R k.toNat) * (mem 22 k.toNat)))), (0, pR 21), (1, pR R), (3, pI k)]) F dX6_worthOf_24 (by decide) rfl ?_
        refine ok_iinc (lv' := [(3, pI (k + 1)), (2, pI (n2 + ((mem R k.toNat) * (mem 22 k.toNat)))), (0, pR 21), (1, pR R)]) F dX6_worthOf_25 3 rfl (by decide) rfl ?_
        refine ok_goto F 4 dX6_worthOf_28 (by decide) ?_
        refine ok_lvp [2, 3, 1, 0] (lv' := [(0, pR 21), (1, pR R), (2, pI (n2 + ((mem R k.toNat) * (mem 22 k.toNat)))), (3, pI (k + 1))]) rfl ?_
        refine ih_4 _ ?_ (n2 + ((mem R k.toNat) * (mem 22 k.toNat))) (k + 1) ?_ rfl
        · omega
        · refine ⟨by omega, by omega, ?_⟩
          rw [sumN_s _ hI_4.1, hI_4.2.2]
  refine ok_lvp [2, 3, 1, 0] (lv' := [(0, pR 21), (1, pR R), (2, pI 0), (3, pI 0)]) rfl ?_
  refine hL_4 _ 0 0 ?_ rfl
  exact ⟨by omega, by omega, rfl⟩
theorem dX6_kindWorth_0 : decode cX6_kindWorth 0 = .ok (.iconst 0, 1) := by decide +kernel
theorem dX6_kindWorth_1 : decode cX6_kindWorth 1 = .ok (.istore_n 2, 1) := by decide +kernel
theorem dX6_kindWorth_2 : decode cX6_kindWorth 2 = .ok (.iload_n 2, 1) := by decide +kernel
theorem dX6_kindWorth_3 : decode cX6_kindWorth 3 = .ok (.aload_n 0, 1) := by decide +kernel
theorem dX6_kindWorth_4 : decode cX6_kindWorth 4 = .ok (.getfield 42, 3) := by decide +kernel
theorem dX6_kindWorth_7 : decode cX6_kindWorth 7 = .ok (.if_icmp .ge 21, 3) := by decide +kernel
theorem dX6_kindWorth_10 : decode cX6_kindWorth 10 = .ok (.aload_n 0, 1) := by decide +kernel
theorem dX6_kindWorth_11 : decode cX6_kindWorth 11 = .ok (.getfield 9, 3) := by decide +kernel
theorem dX6_kindWorth_14 : decode cX6_kindWorth 14 = .ok (.iload_n 2, 1) := by decide +kernel
theorem dX6_kindWorth_15 : decode cX6_kindWorth 15 = .ok (.iaload, 1) := by decide +kernel
theorem dX6_kindWorth_16 : decode cX6_kindWorth 16 = .ok (.iload_n 1, 1) := by decide +kernel
theorem dX6_kindWorth_17 : decode cX6_kindWorth 17 = .ok (.if_icmp .ne 5, 3) := by decide +kernel
theorem dX6_kindWorth_20 : decode cX6_kindWorth 20 = .ok (.iload_n 2, 1) := by decide +kernel
theorem dX6_kindWorth_21 : decode cX6_kindWorth 21 = .ok (.ireturn, 1) := by decide +kernel
theorem dX6_kindWorth_22 : decode cX6_kindWorth 22 = .ok (.iinc 2 1, 3) := by decide +kernel
theorem dX6_kindWorth_25 : decode cX6_kindWorth 25 = .ok (.goto (-23), 3) := by decide +kernel
theorem dX6_kindWorth_28 : decode cX6_kindWorth 28 = .ok (.iconst (-1), 1) := by decide +kernel
theorem dX6_kindWorth_29 : decode cX6_kindWorth 29 = .ok (.ireturn, 1) := by decide +kernel
set_option maxHeartbeats 4000000 in
set_option maxRecDepth 100000 in
theorem m_X6_kindWorth (l : Launch) (v : Int) (mem : Mem) (hv : i32 v) (hN : 0 ≤ mem 32 0 ∧ mem 32 0 ≤ 8) (hR : ∀ b : Nat, b < 8 → i32 (mem 33 b)) : Ret shp l yX6_kindWorth cX6_kindWorth 3 (some .int) 0 [pR 32, pI v] mem (fun rv mv => rv = some (pI (kindAt (fun k => mem 33 k) v (mem 32 0).toNat 0)) ∧ mem = mv) := by
  refine ret_of (by decide +kernel) (Nat.le_of_ble_eq_true rfl) (fun X hX F G => ?_)
  show Ok shp X 3 0 [(0, pR 32), (1, pI v)] [] mem
  refine ok_iconst F dX6_kindWorth_0 ?_
  refine ok_istore_n (lv' := [(2, pI 0), (0, pR 32), (1, pI v)]) F dX6_kindWorth_1 (by decide) rfl ?_
  have hL_2 : ∀ (n_2 : Nat) (k : Int), (0 ≤ k ∧ k ≤ mem 32 0 ∧ kindAt (fun k => mem 33 k) v (mem 32 0).toNat 0 = kindAt (fun k => mem 33 k) v (mem 32 0 - k).toNat k.toNat) → (mem 32 0 - k).toNat = n_2 → Ok shp X 3 2 [(0, pR 32), (1, pI v), (2, pI k)] [] mem := by
    intro n_2
    induction n_2 using Nat.strongRecOn with
    | _ n_2 ih_2 =>
      intro k hI_2 hn_2
      refine ok_iload_n F dX6_kindWorth_2 2 rfl ?_
      refine ok_aload_n F dX6_kindWorth_3 0 rfl ?_
      refine ok_getf (v := mem 32 0) F dX6_kindWorth_4 kF_X6_42 sh_32 rfl rfl ?_
      refine ok_icmp_ge F 28 dX6_kindWorth_7 (by decide) (by omega) (by omega) (fun c_1 => ?_) (fun c_1 => ?_)
      · refine ok_iconst F dX6_kindWorth_28 ?_
        refine ok_iret F G dX6_kindWorth_29 ?_
        refine ⟨?_, rfl⟩
        rw [hI_2.2.2, show (mem 32 0 - k).toNat = 0 by omega]
        rfl
      · have q9 := hR k.toNat (by omega)
        refine ok_aload_n F dX6_kindWorth_10 0 rfl ?_
        refine ok_getr F dX6_kindWorth_11 kF_X6_9 sh_32 rfl ?_
        refine ok_iload_n F dX6_kindWorth_14 2 rfl ?_
        refine ok_iald (v := mem 33 k.toNat) F dX6_kindWorth_15 sh_33 (by first | decide | assumption) (by omega) (by omega) rfl ?_
        refine ok_iload_n F dX6_kindWorth_16 1 rfl ?_
        refine ok_icmp_ne F 22 dX6_kindWorth_17 (by decide) (by omega) (by omega) (fun c_2 => ?_) (fun c_2 => ?_)
        · refine ok_iinc (lv' := [(2, pI (k + 1)), (0, pR 32), (1, pI v)]) F dX6_kindWorth_22 2 rfl (by decide) rfl ?_
          refine ok_goto F 2 dX6_kindWorth_25 (by decide) ?_
          refine ok_lvp [1, 2, 0] (lv' := [(0, pR 32), (1, pI v), (2, pI (k + 1))]) rfl ?_
          refine ih_2 _ ?_ (k + 1) ?_ rfl
          · omega
          · refine ⟨by omega, by omega, ?_⟩
            rw [hI_2.2.2, show (mem 32 0 - k).toNat = (mem 32 0 - (k + 1)).toNat + 1 by omega]
            rw [kindAt, if_neg (by omega), show (k + 1).toNat = k.toNat + 1 by omega]
        · refine ok_iload_n F dX6_kindWorth_20 2 rfl ?_
          refine ok_iret F G dX6_kindWorth_21 ?_
          refine ⟨?_, rfl⟩
          rw [hI_2.2.2, show (mem 32 0 - k).toNat = (mem 32 0 - (k + 1)).toNat + 1 by omega]
          rw [kindAt, if_pos (by omega), show ((k.toNat : Nat) : Int) = k by omega]
  refine ok_lvp [1, 2, 0] (lv' := [(0, pR 32), (1, pI v), (2, pI 0)]) rfl ?_
  refine hL_2 _ 0 ?_ rfl
  exact ⟨by omega, by omega, by rw [show mem 32 0 - 0 = mem 32 0 by omega]; rfl⟩
theorem dX6_priceOf_0 : decode cX6_priceOf 0 = .ok (.iload_n 1, 1) := by decide +kernel
theorem dX6_priceOf_1 : decode cX6_priceOf 1 = .ok (.ifCond .lt 9, 3) := by decide +kernel
theorem dX6_priceOf_4 : decode cX6_priceOf 4 = .ok (.iload_n 1, 1) := by decide +kernel
theorem dX6_priceOf_5 : decode cX6_priceOf 5 = .ok (.bipush 40, 2) := by decide +kernel
theorem dX6_priceOf_7 : decode cX6_priceOf 7 = .ok (.if_icmp .lt 7, 3) := by decide +kernel
theorem dX6_priceOf_14 : decode cX6_priceOf 14 = .ok (.aload_n 0, 1) := by decide +kernel
theorem dX6_priceOf_15 : decode cX6_priceOf 15 = .ok (.getfield 36, 3) := by decide +kernel
theorem dX6_priceOf_18 : decode cX6_priceOf 18 = .ok (.iload_n 1, 1) := by decide +kernel
theorem dX6_priceOf_19 : decode cX6_priceOf 19 = .ok (.iaload, 1) := by decide +kernel
theorem dX6_priceOf_20 : decode cX6_priceOf 20 = .ok (.ireturn, 1) := by decide +kernel
set_option maxHeartbeats 4000000 in
set_option maxRecDepth 100000 in
theorem m_X6_priceOf (l : Launch) (s : Int) (mem : Mem) (hs : 0 ≤ s ∧ s < 40) : Ret shp l yX6_priceOf cX6_priceOf 2 (some .int) 0 [pR 21, pI s] mem (fun rv mv => rv = some (pI (mem 30 s.toNat)) ∧ mem = mv) := by
  refine ret_of (by decide +kernel) (Nat.le_of_ble_eq_true rfl) (fun X hX F G => ?_)
  show Ok shp X 2 0 [(0, pR 21), (1, pI s)] [] mem
  refine ok_iload_n F dX6_priceOf_0 1 rfl ?_
  refine ok_if_lt F 10 dX6_priceOf_1 (by decide) (by omega) (fun c_1 => ?_) (fun c_1 => ?_)
  · exfalso; omega
  · refine ok_iload_n F dX6_priceOf_4 1 rfl ?_
    refine ok_bipush F dX6_priceOf_5 rfl ?_
    refine ok_icmp_lt F 14 dX6_priceOf_7 (by decide) (by omega) (by omega) (fun c_2 => ?_) (fun c_2 => ?_)
    · refine ok_aload_n F dX6_priceOf_14 0 rfl ?_
      refine ok_getr F dX6_priceOf_15 kF_X6_36 sh_21 rfl ?_
      refine ok_iload_n F dX6_priceOf_18 1 rfl ?_
      refine ok_iald (v := mem 30 s.toNat) F dX6_priceOf_19 sh_30 (by first | decide | assumption) (by omega) (by omega) rfl ?_
      refine ok_iret F G dX6_priceOf_20 ?_
      first | exact ⟨rfl, rfl⟩ | (exfalso; omega)
    · exfalso; omega
theorem dX6_givenOf_0 : decode cX6_givenOf 0 = .ok (.iload_n 1, 1) := by decide +kernel
theorem dX6_givenOf_1 : decode cX6_givenOf 1 = .ok (.bipush 8, 2) := by decide +kernel
theorem dX6_givenOf_3 : decode cX6_givenOf 3 = .ok (.imul, 1) := by decide +kernel
theorem dX6_givenOf_4 : decode cX6_givenOf 4 = .ok (.iload_n 2, 1) := by decide +kernel
theorem dX6_givenOf_5 : decode cX6_givenOf 5 = .ok (.iadd, 1) := by decide +kernel
theorem dX6_givenOf_6 : decode cX6_givenOf 6 = .ok (.istore_n 3, 1) := by decide +kernel
theorem dX6_givenOf_7 : decode cX6_givenOf 7 = .ok (.iload_n 3, 1) := by decide +kernel
theorem dX6_givenOf_8 : decode cX6_givenOf 8 = .ok (.ifCond .lt 12, 3) := by decide +kernel
theorem dX6_givenOf_11 : decode cX6_givenOf 11 = .ok (.iload_n 3, 1) := by decide +kernel
theorem dX6_givenOf_12 : decode cX6_givenOf 12 = .ok (.aload_n 0, 1) := by decide +kernel
theorem dX6_givenOf_13 : decode cX6_givenOf 13 = .ok (.getfield 39, 3) := by decide +kernel
theorem dX6_givenOf_16 : decode cX6_givenOf 16 = .ok (.arraylength, 1) := by decide +kernel
theorem dX6_givenOf_17 : decode cX6_givenOf 17 = .ok (.if_icmp .lt 7, 3) := by decide +kernel
theorem dX6_givenOf_24 : decode cX6_givenOf 24 = .ok (.aload_n 0, 1) := by decide +kernel
theorem dX6_givenOf_25 : decode cX6_givenOf 25 = .ok (.getfield 39, 3) := by decide +kernel
theorem dX6_givenOf_28 : decode cX6_givenOf 28 = .ok (.iload_n 3, 1) := by decide +kernel
theorem dX6_givenOf_29 : decode cX6_givenOf 29 = .ok (.iaload, 1) := by decide +kernel
theorem dX6_givenOf_30 : decode cX6_givenOf 30 = .ok (.ireturn, 1) := by decide +kernel
set_option maxHeartbeats 4000000 in
set_option maxRecDepth 100000 in
theorem m_X6_givenOf (l : Launch) (s : Int) (k : Int) (mem : Mem) (hs : 0 ≤ s ∧ s < 40) (hk : 0 ≤ k ∧ k < 8) : Ret shp l yX6_givenOf cX6_givenOf 4 (some .int) 0 [pR 21, pI s, pI k] mem (fun rv mv => rv = some (pI (mem 31 (s * 8 + k).toNat)) ∧ mem = mv) := by
  refine ret_of (by decide +kernel) (Nat.le_of_ble_eq_true rfl) (fun X hX F G => ?_)
  show Ok shp X 4 0 [(0, pR 21), (1, pI s), (2, pI k)] [] mem
  refine ok_iload_n F dX6_givenOf_0 1 rfl ?_
  refine ok_bipush F dX6_givenOf_1 rfl ?_
  refine ok_imul F dX6_givenOf_3 ?_
  refine ok_iload_n F dX6_givenOf_4 2 rfl ?_
  refine ok_iadd F dX6_givenOf_5 ?_
  refine ok_istore_n (lv' := [(3, pI ((s * 8) + k)), (0, pR 21), (1, pI s), (2, pI k)]) F dX6_givenOf_6 (by decide) rfl ?_
  refine ok_iload_n F dX6_givenOf_7 0 rfl ?_
  refine ok_if_lt F 20 dX6_givenOf_8 (by decide) (by omega) (fun c_1 => ?_) (fun c_1 => ?_)
  · exfalso; omega
  · refine ok_iload_n F dX6_givenOf_11 0 rfl ?_
    refine ok_aload_n F dX6_givenOf_12 1 rfl ?_
    refine ok_getr F dX6_givenOf_13 kF_X6_39 sh_21 rfl ?_
    refine ok_alen F dX6_givenOf_16 sh_31 (by decide) ?_
    refine ok_icmp_lt F 24 dX6_givenOf_17 (by decide) (by omega) (by omega) (fun c_2 => ?_) (fun c_2 => ?_)
    · refine ok_aload_n F dX6_givenOf_24 1 rfl ?_
      refine ok_getr F dX6_givenOf_25 kF_X6_39 sh_21 rfl ?_
      refine ok_iload_n F dX6_givenOf_28 0 rfl ?_
      refine ok_iald (v := mem 31 (((s * 8) + k).toNat)) F dX6_givenOf_29 sh_31 (by first | decide | assumption) (by omega) (by omega) rfl ?_
      refine ok_iret F G dX6_givenOf_30 ?_
      first | exact ⟨rfl, rfl⟩ | (exfalso; omega)
    · exfalso; omega
theorem dX6_pricesOf_0 : decode cX6_pricesOf 0 = .ok (.iconst 0, 1) := by decide +kernel
theorem dX6_pricesOf_1 : decode cX6_pricesOf 1 = .ok (.istore_n 2, 1) := by decide +kernel
theorem dX6_pricesOf_2 : decode cX6_pricesOf 2 = .ok (.aload_n 0, 1) := by decide +kernel
theorem dX6_pricesOf_3 : decode cX6_pricesOf 3 = .ok (.iload_n 1, 1) := by decide +kernel
theorem dX6_pricesOf_4 : decode cX6_pricesOf 4 = .ok (.invokevirtual 53, 3) := by decide +kernel
theorem dX6_pricesOf_7 : decode cX6_pricesOf 7 = .ok (.istore_n 3, 1) := by decide +kernel
theorem dX6_pricesOf_8 : decode cX6_pricesOf 8 = .ok (.aload_n 0, 1) := by decide +kernel
theorem dX6_pricesOf_9 : decode cX6_pricesOf 9 = .ok (.iload_n 1, 1) := by decide +kernel
theorem dX6_pricesOf_10 : decode cX6_pricesOf 10 = .ok (.invokevirtual 57, 3) := by decide +kernel
theorem dX6_pricesOf_13 : decode cX6_pricesOf 13 = .ok (.istore 4, 2) := by decide +kernel
theorem dX6_pricesOf_15 : decode cX6_pricesOf 15 = .ok (.iconst 0, 1) := by decide +kernel
theorem dX6_pricesOf_16 : decode cX6_pricesOf 16 = .ok (.istore 5, 2) := by decide +kernel
theorem dX6_pricesOf_18 : decode cX6_pricesOf 18 = .ok (.iload 5, 2) := by decide +kernel
theorem dX6_pricesOf_20 : decode cX6_pricesOf 20 = .ok (.iload 4, 2) := by decide +kernel
theorem dX6_pricesOf_22 : decode cX6_pricesOf 22 = .ok (.if_icmp .ge 20, 3) := by decide +kernel
theorem dX6_pricesOf_25 : decode cX6_pricesOf 25 = .ok (.iload_n 2, 1) := by decide +kernel
theorem dX6_pricesOf_26 : decode cX6_pricesOf 26 = .ok (.aload_n 0, 1) := by decide +kernel
theorem dX6_pricesOf_27 : decode cX6_pricesOf 27 = .ok (.iload_n 3, 1) := by decide +kernel
theorem dX6_pricesOf_28 : decode cX6_pricesOf 28 = .ok (.iload 5, 2) := by decide +kernel
theorem dX6_pricesOf_30 : decode cX6_pricesOf 30 = .ok (.iadd, 1) := by decide +kernel
theorem dX6_pricesOf_31 : decode cX6_pricesOf 31 = .ok (.invokevirtual 60, 3) := by decide +kernel
theorem dX6_pricesOf_34 : decode cX6_pricesOf 34 = .ok (.iadd, 1) := by decide +kernel
theorem dX6_pricesOf_35 : decode cX6_pricesOf 35 = .ok (.istore_n 2, 1) := by decide +kernel
theorem dX6_pricesOf_36 : decode cX6_pricesOf 36 = .ok (.iinc 5 1, 3) := by decide +kernel
theorem dX6_pricesOf_39 : decode cX6_pricesOf 39 = .ok (.goto (-21), 3) := by decide +kernel
theorem dX6_pricesOf_42 : decode cX6_pricesOf 42 = .ok (.iload_n 2, 1) := by decide +kernel
theorem dX6_pricesOf_43 : decode cX6_pricesOf 43 = .ok (.ireturn, 1) := by decide +kernel
set_option maxHeartbeats 4000000 in
set_option maxRecDepth 100000 in
theorem m_X6_pricesOf (l : Launch) (d : Int) (mem : Mem) (hd : 0 ≤ d ∧ d < mem 21 1) (hN1 : 0 ≤ mem 21 1 ∧ mem 21 1 ≤ 5) (hF : 0 ≤ fstD (mem 29) d ∧ 0 ≤ nsaD (mem 29) (mem 21 1) d ∧ fstD (mem 29) d + nsaD (mem 29) (mem 21 1) d ≤ 40) : Ret shp l yX6_pricesOf cX6_pricesOf 6 (some .int) 2 [pR 21, pI d] mem (fun rv mv => rv = some (pI (sumN (fun i => mem 30 ((fstD (mem 29) d).toNat + i)) (nsaD (mem 29) (mem 21 1) d).toNat)) ∧ mem = mv) := by
  refine ret_of (by decide +kernel) (Nat.le_of_ble_eq_true rfl) (fun X hX F G => ?_)
  show Ok shp X 6 0 [(0, pR 21), (1, pI d)] [] mem
  refine ok_iconst F dX6_pricesOf_0 ?_
  refine ok_istore_n (lv' := [(2, pI 0), (0, pR 21), (1, pI d)]) F dX6_pricesOf_1 (by decide) rfl ?_
  refine ok_aload_n F dX6_pricesOf_2 1 rfl ?_
  refine ok_iload_n F dX6_pricesOf_3 2 rfl ?_
  refine ok_callv F [pI d] dX6_pricesOf_4 kM_X6_firstSale kI_X6_firstSale kV_X6_firstSale kL_X6_53 (ci := 6) rfl sh_21 rfl (by decide) (Nat.le_of_ble_eq_true rfl) rfl (m_X6_firstSale_21 _ d mem (by omega)) ?_
  rintro _ _ ⟨rfl, rfl⟩
  refine ok_istore_n (lv' := [(3, pI (fstD (mem 29) d)), (2, pI 0), (0, pR 21), (1, pI d)]) F dX6_pricesOf_7 (by decide) rfl ?_
  refine ok_aload_n F dX6_pricesOf_8 2 rfl ?_
  refine ok_iload_n F dX6_pricesOf_9 3 rfl ?_
  refine ok_callv F [pI d] dX6_pricesOf_10 kM_X6_salesOf kI_X6_salesOf kV_X6_salesOf kL_X6_57 (ci := 6) rfl sh_21 rfl (by decide) (Nat.le_of_ble_eq_true rfl) rfl (m_X6_salesOf_21 _ d mem (by omega) (by omega)) ?_
  rintro _ _ ⟨rfl, rfl⟩
  refine ok_istore (lv' := [(4, pI (nsaD (mem 29) (mem 21 1) d)), (3, pI (fstD (mem 29) d)), (2, pI 0), (0, pR 21), (1, pI d)]) F dX6_pricesOf_13 (by decide) rfl ?_
  refine ok_iconst F dX6_pricesOf_15 ?_
  refine ok_istore (lv' := [(5, pI 0), (4, pI (nsaD (mem 29) (mem 21 1) d)), (3, pI (fstD (mem 29) d)), (2, pI 0), (0, pR 21), (1, pI d)]) F dX6_pricesOf_16 (by decide) rfl ?_
  have hL_18 : ∀ (n_18 : Nat) (n2 : Int) (k : Int), (0 ≤ k ∧ k ≤ nsaD (mem 29) (mem 21 1) d ∧ n2 = sumN (fun i => mem 30 ((fstD (mem 29) d).toNat + i)) k.toNat) → (nsaD (mem 29) (mem 21 1) d - k).toNat = n_18 → Ok shp X 6 18 [(0, pR 21), (1, pI d), (2, pI n2), (3, pI (fstD (mem 29) d)), (4, pI (nsaD (mem 29) (mem 21 1) d)), (5, pI k)] [] mem := by
    intro n_18
    induction n_18 using Nat.strongRecOn with
    | _ n_18 ih_18 =>
      intro n2 k hI_18 hn_18
      refine ok_iload F dX6_pricesOf_18 5 rfl ?_
      refine ok_iload F dX6_pricesOf_20 4 rfl ?_
      refine ok_icmp_ge F 42 dX6_pricesOf_22 (by decide) (by omega) (by omega) (fun c_1 => ?_) (fun c_1 => ?_)
      · refine ok_iload_n F dX6_pricesOf_42 2 rfl ?_
        refine ok_iret F G dX6_pricesOf_43 ?_
        refine ⟨?_, rfl⟩
        rw [hI_18.2.2, show k = nsaD (mem 29) (mem 21 1) d by omega]
      · refine ok_iload_n F dX6_pricesOf_25 2 rfl ?_
        refine ok_aload_n F dX6_pricesOf_26 0 rfl ?_
        refine ok_iload_n F dX6_pricesOf_27 3 rfl ?_
        refine ok_iload F dX6_pricesOf_28 5 rfl ?_
        refine ok_iadd F dX6_pricesOf_30 ?_
        refine ok_callv F [pI ((fstD (mem 29) d) + k)] dX6_pricesOf_31 kM_X6_priceOf kI_X6_priceOf kV_X6_priceOf kL_X6_60 (ci := 6) rfl sh_21 rfl (by decide) (Nat.le_of_ble_eq_true rfl) rfl (m_X6_priceOf _ ((fstD (mem 29) d) + k) mem (by omega)) ?_
        rintro _ _ ⟨rfl, rfl⟩
        refine ok_iadd F dX6_pricesOf_34 ?_
        refine ok_istore_n (lv' := [(2, pI (n2 + (mem 30 ((fstD (mem 29) d) + k).toNat))), (0, pR 21), (1, pI d), (3, pI (fstD (mem 29) d)), (4, pI (nsaD (mem 29) (mem 21 1) d)), (5, pI k)]) F dX6_pricesOf_35 (by decide) rfl ?_
        refine ok_iinc (lv' := [(5, pI (k + 1)), (2, pI (n2 + (mem 30 ((fstD (mem 29) d) + k).toNat))), (0, pR 21), (1, pI d), (3, pI (fstD (mem 29) d)), (4, pI (nsaD (mem 29) (mem 21 1) d))]) F dX6_pricesOf_36 5 rfl (by decide) rfl ?_
        refine ok_goto F 18 dX6_pricesOf_39 (by decide) ?_
        refine ok_lvp [2, 3, 1, 4, 5, 0] (lv' := [(0, pR 21), (1, pI d), (2, pI (n2 + (mem 30 ((fstD (mem 29) d) + k).toNat))), (3, pI (fstD (mem 29) d)), (4, pI (nsaD (mem 29) (mem 21 1) d)), (5, pI (k + 1))]) rfl ?_
        refine ih_18 _ ?_ (n2 + (mem 30 ((fstD (mem 29) d) + k).toNat)) (k + 1) ?_ rfl
        · omega
        · refine ⟨by omega, by omega, ?_⟩
          rw [sumN_s _ hI_18.1, hI_18.2.2, show (fstD (mem 29) d + k).toNat = (fstD (mem 29) d).toNat + k.toNat by omega]
  refine ok_lvp [4, 5, 3, 2, 1, 0] (lv' := [(0, pR 21), (1, pI d), (2, pI 0), (3, pI (fstD (mem 29) d)), (4, pI (nsaD (mem 29) (mem 21 1) d)), (5, pI 0)]) rfl ?_
  refine hL_18 _ 0 0 ?_ rfl
  exact ⟨by omega, by omega, rfl⟩
theorem dX6_givenPieces_0 : decode cX6_givenPieces 0 = .ok (.iconst 0, 1) := by decide +kernel
theorem dX6_givenPieces_1 : decode cX6_givenPieces 1 = .ok (.istore_n 2, 1) := by decide +kernel
theorem dX6_givenPieces_2 : decode cX6_givenPieces 2 = .ok (.iconst 0, 1) := by decide +kernel
theorem dX6_givenPieces_3 : decode cX6_givenPieces 3 = .ok (.istore_n 3, 1) := by decide +kernel
theorem dX6_givenPieces_4 : decode cX6_givenPieces 4 = .ok (.iload_n 3, 1) := by decide +kernel
theorem dX6_givenPieces_5 : decode cX6_givenPieces 5 = .ok (.aload_n 0, 1) := by decide +kernel
theorem dX6_givenPieces_6 : decode cX6_givenPieces 6 = .ok (.getfield 42, 3) := by decide +kernel
theorem dX6_givenPieces_9 : decode cX6_givenPieces 9 = .ok (.if_icmp .ge 18, 3) := by decide +kernel
theorem dX6_givenPieces_12 : decode cX6_givenPieces 12 = .ok (.iload_n 2, 1) := by decide +kernel
theorem dX6_givenPieces_13 : decode cX6_givenPieces 13 = .ok (.aload_n 0, 1) := by decide +kernel
theorem dX6_givenPieces_14 : decode cX6_givenPieces 14 = .ok (.iload_n 1, 1) := by decide +kernel
theorem dX6_givenPieces_15 : decode cX6_givenPieces 15 = .ok (.iload_n 3, 1) := by decide +kernel
theorem dX6_givenPieces_16 : decode cX6_givenPieces 16 = .ok (.invokevirtual 63, 3) := by decide +kernel
theorem dX6_givenPieces_19 : decode cX6_givenPieces 19 = .ok (.iadd, 1) := by decide +kernel
theorem dX6_givenPieces_20 : decode cX6_givenPieces 20 = .ok (.istore_n 2, 1) := by decide +kernel
theorem dX6_givenPieces_21 : decode cX6_givenPieces 21 = .ok (.iinc 3 1, 3) := by decide +kernel
theorem dX6_givenPieces_24 : decode cX6_givenPieces 24 = .ok (.goto (-20), 3) := by decide +kernel
theorem dX6_givenPieces_27 : decode cX6_givenPieces 27 = .ok (.iload_n 2, 1) := by decide +kernel
theorem dX6_givenPieces_28 : decode cX6_givenPieces 28 = .ok (.ireturn, 1) := by decide +kernel
set_option maxHeartbeats 4000000 in
set_option maxRecDepth 100000 in
theorem m_X6_givenPieces (l : Launch) (s : Int) (mem : Mem) (hs : 0 ≤ s ∧ s < 40) (hN : 0 ≤ mem 21 0 ∧ mem 21 0 ≤ 8) : Ret shp l yX6_givenPieces cX6_givenPieces 4 (some .int) 1 [pR 21, pI s] mem (fun rv mv => rv = some (pI (sumN (fun k => mem 31 (s.toNat * 8 + k)) (mem 21 0).toNat)) ∧ mem = mv) := by
  refine ret_of (by decide +kernel) (Nat.le_of_ble_eq_true rfl) (fun X hX F G => ?_)
  show Ok shp X 4 0 [(0, pR 21), (1, pI s)] [] mem
  refine ok_iconst F dX6_givenPieces_0 ?_
  refine ok_istore_n (lv' := [(2, pI 0), (0, pR 21), (1, pI s)]) F dX6_givenPieces_1 (by decide) rfl ?_
  refine ok_iconst F dX6_givenPieces_2 ?_
  refine ok_istore_n (lv' := [(3, pI 0), (2, pI 0), (0, pR 21), (1, pI s)]) F dX6_givenPieces_3 (by decide) rfl ?_
  have hL_4 : ∀ (n_4 : Nat) (n2 : Int) (k : Int), (0 ≤ k ∧ k ≤ mem 21 0 ∧ n2 = sumN (fun k => mem 31 (s.toNat * 8 + k)) k.toNat) → (mem 21 0 - k).toNat = n_4 → Ok shp X 4 4 [(0, pR 21), (1, pI s), (2, pI n2), (3, pI k)] [] mem := by
    intro n_4
    induction n_4 using Nat.strongRecOn with
    | _ n_4 ih_4 =>
      intro n2 k hI_4 hn_4
      refine ok_iload_n F dX6_givenPieces_4 3 rfl ?_
      refine ok_aload_n F dX6_givenPieces_5 0 rfl ?_
      refine ok_getf (v := mem 21 0) F dX6_givenPieces_6 kF_X6_42 sh_21 rfl rfl ?_
      refine ok_icmp_ge F 27 dX6_givenPieces_9 (by decide) (by omega) (by omega) (fun c_1 => ?_) (fun c_1 => ?_)
      · refine ok_iload_n F dX6_givenPieces_27 2 rfl ?_
        refine ok_iret F G dX6_givenPieces_28 ?_
        refine ⟨?_, rfl⟩
        rw [hI_4.2.2, show k = mem 21 0 by omega]
      · refine ok_iload_n F dX6_givenPieces_12 2 rfl ?_
        refine ok_aload_n F dX6_givenPieces_13 0 rfl ?_
        refine ok_iload_n F dX6_givenPieces_14 1 rfl ?_
        refine ok_iload_n F dX6_givenPieces_15 3 rfl ?_
        refine ok_callv F [pI s, pI k] dX6_givenPieces_16 kM_X6_givenOf kI_X6_givenOf kV_X6_givenOf kL_X6_63 (ci := 6) rfl sh_21 rfl (by decide) (Nat.le_of_ble_eq_true rfl) rfl (m_X6_givenOf _ s k mem (by omega) (by omega)) ?_
        rintro _ _ ⟨rfl, rfl⟩
        refine ok_iadd F dX6_givenPieces_19 ?_
        refine ok_istore_n (lv' := [(2, pI (n2 + (mem 31 (s * 8 + k).toNat))), (0, pR 21), (1, pI s), (3, pI k)]) F dX6_givenPieces_20 (by decide) rfl ?_
        refine ok_iinc (lv' := [(3, pI (k + 1)), (2, pI (n2 + (mem 31 (s * 8 + k).toNat))), (0, pR 21), (1, pI s)]) F dX6_givenPieces_21 3 rfl (by decide) rfl ?_
        refine ok_goto F 4 dX6_givenPieces_24 (by decide) ?_
        refine ok_lvp [2, 3, 1, 0] (lv' := [(0, pR 21), (1, pI s), (2, pI (n2 + (mem 31 (s * 8 + k).toNat))), (3, pI (k + 1))]) rfl ?_
        refine ih_4 _ ?_ (n2 + (mem 31 (s * 8 + k).toNat)) (k + 1) ?_ rfl
        · omega
        · refine ⟨by omega, by omega, ?_⟩
          rw [sumN_s _ hI_4.1, hI_4.2.2, show (s * 8 + k).toNat = s.toNat * 8 + k.toNat by omega]
  refine ok_lvp [2, 3, 1, 0] (lv' := [(0, pR 21), (1, pI s), (2, pI 0), (3, pI 0)]) rfl ?_
  refine hL_4 _ 0 0 ?_ rfl
  exact ⟨by omega, by omega, rfl⟩
theorem dX6_givenWorth_0 : decode cX6_givenWorth 0 = .ok (.iconst 0, 1) := by decide +kernel
theorem dX6_givenWorth_1 : decode cX6_givenWorth 1 = .ok (.istore_n 2, 1) := by decide +kernel
theorem dX6_givenWorth_2 : decode cX6_givenWorth 2 = .ok (.iconst 0, 1) := by decide +kernel
theorem dX6_givenWorth_3 : decode cX6_givenWorth 3 = .ok (.istore_n 3, 1) := by decide +kernel
theorem dX6_givenWorth_4 : decode cX6_givenWorth 4 = .ok (.iload_n 3, 1) := by decide +kernel
theorem dX6_givenWorth_5 : decode cX6_givenWorth 5 = .ok (.aload_n 0, 1) := by decide +kernel
theorem dX6_givenWorth_6 : decode cX6_givenWorth 6 = .ok (.getfield 42, 3) := by decide +kernel
theorem dX6_givenWorth_9 : decode cX6_givenWorth 9 = .ok (.if_icmp .ge 25, 3) := by decide +kernel
theorem dX6_givenWorth_12 : decode cX6_givenWorth 12 = .ok (.iload_n 2, 1) := by decide +kernel
theorem dX6_givenWorth_13 : decode cX6_givenWorth 13 = .ok (.aload_n 0, 1) := by decide +kernel
theorem dX6_givenWorth_14 : decode cX6_givenWorth 14 = .ok (.iload_n 1, 1) := by decide +kernel
theorem dX6_givenWorth_15 : decode cX6_givenWorth 15 = .ok (.iload_n 3, 1) := by decide +kernel
theorem dX6_givenWorth_16 : decode cX6_givenWorth 16 = .ok (.invokevirtual 63, 3) := by decide +kernel
theorem dX6_givenWorth_19 : decode cX6_givenWorth 19 = .ok (.aload_n 0, 1) := by decide +kernel
theorem dX6_givenWorth_20 : decode cX6_givenWorth 20 = .ok (.getfield 9, 3) := by decide +kernel
theorem dX6_givenWorth_23 : decode cX6_givenWorth 23 = .ok (.iload_n 3, 1) := by decide +kernel
theorem dX6_givenWorth_24 : decode cX6_givenWorth 24 = .ok (.iaload, 1) := by decide +kernel
theorem dX6_givenWorth_25 : decode cX6_givenWorth 25 = .ok (.imul, 1) := by decide +kernel
theorem dX6_givenWorth_26 : decode cX6_givenWorth 26 = .ok (.iadd, 1) := by decide +kernel
theorem dX6_givenWorth_27 : decode cX6_givenWorth 27 = .ok (.istore_n 2, 1) := by decide +kernel
theorem dX6_givenWorth_28 : decode cX6_givenWorth 28 = .ok (.iinc 3 1, 3) := by decide +kernel
theorem dX6_givenWorth_31 : decode cX6_givenWorth 31 = .ok (.goto (-27), 3) := by decide +kernel
theorem dX6_givenWorth_34 : decode cX6_givenWorth 34 = .ok (.iload_n 2, 1) := by decide +kernel
theorem dX6_givenWorth_35 : decode cX6_givenWorth 35 = .ok (.ireturn, 1) := by decide +kernel
set_option maxHeartbeats 4000000 in
set_option maxRecDepth 100000 in
theorem m_X6_givenWorth (l : Launch) (s : Int) (mem : Mem) (hs : 0 ≤ s ∧ s < 40) (hN : 0 ≤ mem 21 0 ∧ mem 21 0 ≤ 8) : Ret shp l yX6_givenWorth cX6_givenWorth 4 (some .int) 1 [pR 21, pI s] mem (fun rv mv => rv = some (pI (sumN (fun k => mem 31 (s.toNat * 8 + k) * mem 22 k) (mem 21 0).toNat)) ∧ mem = mv) := by
  refine ret_of (by decide +kernel) (Nat.le_of_ble_eq_true rfl) (fun X hX F G => ?_)
  show Ok shp X 4 0 [(0, pR 21), (1, pI s)] [] mem
  refine ok_iconst F dX6_givenWorth_0 ?_
  refine ok_istore_n (lv' := [(2, pI 0), (0, pR 21), (1, pI s)]) F dX6_givenWorth_1 (by decide) rfl ?_
  refine ok_iconst F dX6_givenWorth_2 ?_
  refine ok_istore_n (lv' := [(3, pI 0), (2, pI 0), (0, pR 21), (1, pI s)]) F dX6_givenWorth_3 (by decide) rfl ?_
  have hL_4 : ∀ (n_4 : Nat) (n2 : Int) (k : Int), (0 ≤ k ∧ k ≤ mem 21 0 ∧ n2 = sumN (fun k => mem 31 (s.toNat * 8 + k) * mem 22 k) k.toNat) → (mem 21 0 - k).toNat = n_4 → Ok shp X 4 4 [(0, pR 21), (1, pI s), (2, pI n2), (3, pI k)] [] mem := by
    intro n_4
    induction n_4 using Nat.strongRecOn with
    | _ n_4 ih_4 =>
      intro n2 k hI_4 hn_4
      refine ok_iload_n F dX6_givenWorth_4 3 rfl ?_
      refine ok_aload_n F dX6_givenWorth_5 0 rfl ?_
      refine ok_getf (v := mem 21 0) F dX6_givenWorth_6 kF_X6_42 sh_21 rfl rfl ?_
      refine ok_icmp_ge F 34 dX6_givenWorth_9 (by decide) (by omega) (by omega) (fun c_1 => ?_) (fun c_1 => ?_)
      · refine ok_iload_n F dX6_givenWorth_34 2 rfl ?_
        refine ok_iret F G dX6_givenWorth_35 ?_
        refine ⟨?_, rfl⟩
        rw [hI_4.2.2, show k = mem 21 0 by omega]
      · refine ok_iload_n F dX6_givenWorth_12 2 rfl ?_
        refine ok_aload_n F dX6_givenWorth_13 0 rfl ?_
        refine ok_iload_n F dX6_givenWorth_14 1 rfl ?_
        refine ok_iload_n F dX6_givenWorth_15 3 rfl ?_
        refine ok_callv F [pI s, pI k] dX6_givenWorth_16 kM_X6_givenOf kI_X6_givenOf kV_X6_givenOf kL_X6_63 (ci := 6) rfl sh_21 rfl (by decide) (Nat.le_of_ble_eq_true rfl) rfl (m_X6_givenOf _ s k mem (by omega) (by omega)) ?_
        rintro _ _ ⟨rfl, rfl⟩
        refine ok_aload_n F dX6_givenWorth_19 0 rfl ?_
        refine ok_getr F dX6_givenWorth_20 kF_X6_9 sh_21 rfl ?_
        refine ok_iload_n F dX6_givenWorth_23 3 rfl ?_
        refine ok_iald (v := mem 22 k.toNat) F dX6_givenWorth_24 sh_22 (by first | decide | assumption) (by omega) (by omega) rfl ?_
        refine ok_imul F dX6_givenWorth_25 ?_
        refine ok_iadd F dX6_givenWorth_26 ?_
        refine ok_istore_n (lv' := [(2, pI (n2 + ((mem 31 (s * 8 + k).toNat) * (mem 22 k.toNat)))), (0, pR 21), (1, pI s), (3, pI k)]) F dX6_givenWorth_27 (by decide) rfl ?_
        refine ok_iinc (lv' := [(3, pI (k + 1)), (2, pI (n2 + ((mem 31 (s * 8 + k).toNat) * (mem 22 k.toNat)))), (0, pR 21), (1, pI s)]) F dX6_givenWorth_28 3 rfl (by decide) rfl ?_
        refine ok_goto F 4 dX6_givenWorth_31 (by decide) ?_
        refine ok_lvp [2, 3, 1, 0] (lv' := [(0, pR 21), (1, pI s), (2, pI (n2 + ((mem 31 (s * 8 + k).toNat) * (mem 22 k.toNat)))), (3, pI (k + 1))]) rfl ?_
        refine ih_4 _ ?_ (n2 + ((mem 31 (s * 8 + k).toNat) * (mem 22 k.toNat))) (k + 1) ?_ rfl
        · omega
        · refine ⟨by omega, by omega, ?_⟩
          rw [sumN_s _ hI_4.1, hI_4.2.2, show (s * 8 + k).toNat = s.toNat * 8 + k.toNat by omega]
  refine ok_lvp [2, 3, 1, 0] (lv' := [(0, pR 21), (1, pI s), (2, pI 0), (3, pI 0)]) rfl ?_
  refine hL_4 _ 0 0 ?_ rfl
  exact ⟨by omega, by omega, rfl⟩
theorem dX6_addDay_0 : decode cX6_addDay 0 = .ok (.aload_n 0, 1) := by decide +kernel
theorem dX6_addDay_1 : decode cX6_addDay 1 = .ok (.invokevirtual 67, 3) := by decide +kernel
theorem dX6_addDay_4 : decode cX6_addDay 4 = .ok (.istore_n 1, 1) := by decide +kernel
theorem dX6_addDay_5 : decode cX6_addDay 5 = .ok (.aload_n 0, 1) := by decide +kernel
theorem dX6_addDay_6 : decode cX6_addDay 6 = .ok (.getfield 46, 3) := by decide +kernel
theorem dX6_addDay_9 : decode cX6_addDay 9 = .ok (.ifCond .lt 31, 3) := by decide +kernel
theorem dX6_addDay_12 : decode cX6_addDay 12 = .ok (.aload_n 0, 1) := by decide +kernel
theorem dX6_addDay_13 : decode cX6_addDay 13 = .ok (.getfield 46, 3) := by decide +kernel
theorem dX6_addDay_16 : decode cX6_addDay 16 = .ok (.iconst 5, 1) := by decide +kernel
theorem dX6_addDay_17 : decode cX6_addDay 17 = .ok (.if_icmp .ge 23, 3) := by decide +kernel
theorem dX6_addDay_20 : decode cX6_addDay 20 = .ok (.aload_n 0, 1) := by decide +kernel
theorem dX6_addDay_21 : decode cX6_addDay 21 = .ok (.getfield 33, 3) := by decide +kernel
theorem dX6_addDay_24 : decode cX6_addDay 24 = .ok (.aload_n 0, 1) := by decide +kernel
theorem dX6_addDay_25 : decode cX6_addDay 25 = .ok (.getfield 46, 3) := by decide +kernel
theorem dX6_addDay_28 : decode cX6_addDay 28 = .ok (.iload_n 1, 1) := by decide +kernel
theorem dX6_addDay_29 : decode cX6_addDay 29 = .ok (.iastore, 1) := by decide +kernel
theorem dX6_addDay_30 : decode cX6_addDay 30 = .ok (.aload_n 0, 1) := by decide +kernel
theorem dX6_addDay_31 : decode cX6_addDay 31 = .ok (.dup, 1) := by decide +kernel
theorem dX6_addDay_32 : decode cX6_addDay 32 = .ok (.getfield 46, 3) := by decide +kernel
theorem dX6_addDay_35 : decode cX6_addDay 35 = .ok (.iconst 1, 1) := by decide +kernel
theorem dX6_addDay_36 : decode cX6_addDay 36 = .ok (.iadd, 1) := by decide +kernel
theorem dX6_addDay_37 : decode cX6_addDay 37 = .ok (.putfield 46, 3) := by decide +kernel
theorem dX6_addDay_40 : decode cX6_addDay 40 = .ok (.return_, 1) := by decide +kernel
set_option maxHeartbeats 4000000 in
set_option maxRecDepth 100000 in
theorem m_X6_addDay_21 (l : Launch) (mem : Mem) (hN1 : 0 ≤ mem 21 1 ∧ mem 21 1 < 5) : Ret shp l yX6_addDay cX6_addDay 2 none 2 [pR 21] mem (fun rv mv => rv = none ∧ mv = mset (mset mem 29 (mem 21 1).toNat (fstD (mem 29) (mem 21 1))) 21 1 (mem 21 1 + 1)) := by
  refine ret_of (by decide +kernel) (Nat.le_of_ble_eq_true rfl) (fun X hX F G => ?_)
  show Ok shp X 2 0 [(0, pR 21)] [] mem
  refine ok_aload_n F dX6_addDay_0 0 rfl ?_
  refine ok_callv F [] dX6_addDay_1 kM_X6_allSales kI_X6_allSales kV_X6_allSales kL_X6_67 (ci := 6) rfl sh_21 rfl (by decide) (Nat.le_of_ble_eq_true rfl) rfl (m_X6_allSales_21 _ mem (by omega)) ?_
  rintro _ _ ⟨rfl, rfl⟩
  refine ok_istore_n (lv' := [(1, pI (fstD (mem 29) (mem 21 1))), (0, pR 21)]) F dX6_addDay_4 (by decide) rfl ?_
  refine ok_aload_n F dX6_addDay_5 1 rfl ?_
  refine ok_getf (v := mem 21 1) F dX6_addDay_6 kF_X6_46 sh_21 rfl rfl ?_
  refine ok_if_lt F 40 dX6_addDay_9 (by decide) (by omega) (fun c_1 => ?_) (fun c_1 => ?_)
  · exfalso; omega
  · refine ok_aload_n F dX6_addDay_12 1 rfl ?_
    refine ok_getf (v := mem 21 1) F dX6_addDay_13 kF_X6_46 sh_21 rfl rfl ?_
    refine ok_iconst F dX6_addDay_16 ?_
    refine ok_icmp_ge F 40 dX6_addDay_17 (by decide) (by omega) (by omega) (fun c_2 => ?_) (fun c_2 => ?_)
    · exfalso; omega
    · refine ok_aload_n F dX6_addDay_20 1 rfl ?_
      refine ok_getr F dX6_addDay_21 kF_X6_33 sh_21 rfl ?_
      refine ok_aload_n F dX6_addDay_24 1 rfl ?_
      refine ok_getf (v := mem 21 1) F dX6_addDay_25 kF_X6_46 sh_21 rfl rfl ?_
      refine ok_iload_n F dX6_addDay_28 0 rfl ?_
      refine ok_iast F dX6_addDay_29 sh_29 (by first | decide | assumption) (by omega) (by omega) (fun m_3 e_4 => ?_)
      refine ok_aload_n F dX6_addDay_30 1 rfl ?_
      refine ok_dup F dX6_addDay_31 rfl ?_
      refine ok_getf (v := mem 21 1) F dX6_addDay_32 kF_X6_46 sh_21 rfl (by rw [e_4, mset_nk (by decide)] <;> rfl) ?_
      refine ok_iconst F dX6_addDay_35 ?_
      refine ok_iadd F dX6_addDay_36 ?_
      refine ok_putf F dX6_addDay_37 kF_X6_46 sh_21 rfl rfl rfl (fun m_5 e_6 => ?_)
      refine ok_vret F G dX6_addDay_40 ?_
      exact ⟨rfl, by rw [e_6, e_4]⟩
set_option maxHeartbeats 4000000 in
set_option maxRecDepth 100000 in
theorem m_X6_addDay_32 (l : Launch) (mem : Mem) (hN1 : 0 ≤ mem 32 1 ∧ mem 32 1 < 5) : Ret shp l yX6_addDay cX6_addDay 2 none 2 [pR 32] mem (fun rv mv => rv = none ∧ mv = mset (mset mem 40 (mem 32 1).toNat (fstD (mem 40) (mem 32 1))) 32 1 (mem 32 1 + 1)) := by
  refine ret_of (by decide +kernel) (Nat.le_of_ble_eq_true rfl) (fun X hX F G => ?_)
  show Ok shp X 2 0 [(0, pR 32)] [] mem
  refine ok_aload_n F dX6_addDay_0 0 rfl ?_
  refine ok_callv F [] dX6_addDay_1 kM_X6_allSales kI_X6_allSales kV_X6_allSales kL_X6_67 (ci := 6) rfl sh_32 rfl (by decide) (Nat.le_of_ble_eq_true rfl) rfl (m_X6_allSales_32 _ mem (by omega)) ?_
  rintro _ _ ⟨rfl, rfl⟩
  refine ok_istore_n (lv' := [(1, pI (fstD (mem 40) (mem 32 1))), (0, pR 32)]) F dX6_addDay_4 (by decide) rfl ?_
  refine ok_aload_n F dX6_addDay_5 1 rfl ?_
  refine ok_getf (v := mem 32 1) F dX6_addDay_6 kF_X6_46 sh_32 rfl rfl ?_
  refine ok_if_lt F 40 dX6_addDay_9 (by decide) (by omega) (fun c_1 => ?_) (fun c_1 => ?_)
  · exfalso; omega
  · refine ok_aload_n F dX6_addDay_12 1 rfl ?_
    refine ok_getf (v := mem 32 1) F dX6_addDay_13 kF_X6_46 sh_32 rfl rfl ?_
    refine ok_iconst F dX6_addDay_16 ?_
    refine ok_icmp_ge F 40 dX6_addDay_17 (by decide) (by omega) (by omega) (fun c_2 => ?_) (fun c_2 => ?_)
    · exfalso; omega
    · refine ok_aload_n F dX6_addDay_20 1 rfl ?_
      refine ok_getr F dX6_addDay_21 kF_X6_33 sh_32 rfl ?_
      refine ok_aload_n F dX6_addDay_24 1 rfl ?_
      refine ok_getf (v := mem 32 1) F dX6_addDay_25 kF_X6_46 sh_32 rfl rfl ?_
      refine ok_iload_n F dX6_addDay_28 0 rfl ?_
      refine ok_iast F dX6_addDay_29 sh_40 (by first | decide | assumption) (by omega) (by omega) (fun m_3 e_4 => ?_)
      refine ok_aload_n F dX6_addDay_30 1 rfl ?_
      refine ok_dup F dX6_addDay_31 rfl ?_
      refine ok_getf (v := mem 32 1) F dX6_addDay_32 kF_X6_46 sh_32 rfl (by rw [e_4, mset_nk (by decide)] <;> rfl) ?_
      refine ok_iconst F dX6_addDay_35 ?_
      refine ok_iadd F dX6_addDay_36 ?_
      refine ok_putf F dX6_addDay_37 kF_X6_46 sh_32 rfl rfl rfl (fun m_5 e_6 => ?_)
      refine ok_vret F G dX6_addDay_40 ?_
      exact ⟨rfl, by rw [e_6, e_4]⟩
theorem dX6_openSale_0 : decode cX6_openSale 0 = .ok (.aload_n 0, 1) := by decide +kernel
theorem dX6_openSale_1 : decode cX6_openSale 1 = .ok (.invokevirtual 67, 3) := by decide +kernel
theorem dX6_openSale_4 : decode cX6_openSale 4 = .ok (.istore_n 2, 1) := by decide +kernel
theorem dX6_openSale_5 : decode cX6_openSale 5 = .ok (.iload_n 2, 1) := by decide +kernel
theorem dX6_openSale_6 : decode cX6_openSale 6 = .ok (.ifCond .lt 9, 3) := by decide +kernel
theorem dX6_openSale_9 : decode cX6_openSale 9 = .ok (.iload_n 2, 1) := by decide +kernel
theorem dX6_openSale_10 : decode cX6_openSale 10 = .ok (.bipush 40, 2) := by decide +kernel
theorem dX6_openSale_12 : decode cX6_openSale 12 = .ok (.if_icmp .lt 5, 3) := by decide +kernel
theorem dX6_openSale_17 : decode cX6_openSale 17 = .ok (.aload_n 0, 1) := by decide +kernel
theorem dX6_openSale_18 : decode cX6_openSale 18 = .ok (.getfield 36, 3) := by decide +kernel
theorem dX6_openSale_21 : decode cX6_openSale 21 = .ok (.iload_n 2, 1) := by decide +kernel
theorem dX6_openSale_22 : decode cX6_openSale 22 = .ok (.iload_n 1, 1) := by decide +kernel
theorem dX6_openSale_23 : decode cX6_openSale 23 = .ok (.iastore, 1) := by decide +kernel
theorem dX6_openSale_24 : decode cX6_openSale 24 = .ok (.iconst 0, 1) := by decide +kernel
theorem dX6_openSale_25 : decode cX6_openSale 25 = .ok (.istore_n 3, 1) := by decide +kernel
theorem dX6_openSale_26 : decode cX6_openSale 26 = .ok (.iload_n 3, 1) := by decide +kernel
theorem dX6_openSale_27 : decode cX6_openSale 27 = .ok (.bipush 8, 2) := by decide +kernel
theorem dX6_openSale_29 : decode cX6_openSale 29 = .ok (.if_icmp .ge 21, 3) := by decide +kernel
theorem dX6_openSale_32 : decode cX6_openSale 32 = .ok (.aload_n 0, 1) := by decide +kernel
theorem dX6_openSale_33 : decode cX6_openSale 33 = .ok (.getfield 39, 3) := by decide +kernel
theorem dX6_openSale_36 : decode cX6_openSale 36 = .ok (.iload_n 2, 1) := by decide +kernel
theorem dX6_openSale_37 : decode cX6_openSale 37 = .ok (.bipush 8, 2) := by decide +kernel
theorem dX6_openSale_39 : decode cX6_openSale 39 = .ok (.imul, 1) := by decide +kernel
theorem dX6_openSale_40 : decode cX6_openSale 40 = .ok (.iload_n 3, 1) := by decide +kernel
theorem dX6_openSale_41 : decode cX6_openSale 41 = .ok (.iadd, 1) := by decide +kernel
theorem dX6_openSale_42 : decode cX6_openSale 42 = .ok (.iconst 0, 1) := by decide +kernel
theorem dX6_openSale_43 : decode cX6_openSale 43 = .ok (.iastore, 1) := by decide +kernel
theorem dX6_openSale_44 : decode cX6_openSale 44 = .ok (.iinc 3 1, 3) := by decide +kernel
theorem dX6_openSale_47 : decode cX6_openSale 47 = .ok (.goto (-21), 3) := by decide +kernel
theorem dX6_openSale_50 : decode cX6_openSale 50 = .ok (.iload_n 2, 1) := by decide +kernel
theorem dX6_openSale_51 : decode cX6_openSale 51 = .ok (.ireturn, 1) := by decide +kernel
set_option maxHeartbeats 4000000 in
set_option maxRecDepth 100000 in
theorem m_X6_openSale_21 (l : Launch) (p : Int) (mem : Mem) (hN1 : 0 ≤ mem 21 1 ∧ mem 21 1 ≤ 5) (hA : 0 ≤ fstD (mem 29) (mem 21 1) ∧ fstD (mem 29) (mem 21 1) < 40) : Ret shp l yX6_openSale cX6_openSale 4 (some .int) 2 [pR 21, pI p] mem (fun rv mv => rv = some (pI (fstD (mem 29) (mem 21 1))) ∧ mv = opnM mem 21 (fstD (mem 29) (mem 21 1)).toNat p 8) := by
  refine ret_of (by decide +kernel) (Nat.le_of_ble_eq_true rfl) (fun X hX F G => ?_)
  show Ok shp X 4 0 [(0, pR 21), (1, pI p)] [] mem
  refine ok_aload_n F dX6_openSale_0 0 rfl ?_
  refine ok_callv F [] dX6_openSale_1 kM_X6_allSales kI_X6_allSales kV_X6_allSales kL_X6_67 (ci := 6) rfl sh_21 rfl (by decide) (Nat.le_of_ble_eq_true rfl) rfl (m_X6_allSales_21 _ mem (by omega)) ?_
  rintro _ _ ⟨rfl, rfl⟩
  refine ok_istore_n (lv' := [(2, pI (fstD (mem 29) (mem 21 1))), (0, pR 21), (1, pI p)]) F dX6_openSale_4 (by decide) rfl ?_
  refine ok_iload_n F dX6_openSale_5 0 rfl ?_
  refine ok_if_lt F 15 dX6_openSale_6 (by decide) (by omega) (fun c_1 => ?_) (fun c_1 => ?_)
  · exfalso; omega
  · refine ok_iload_n F dX6_openSale_9 0 rfl ?_
    refine ok_bipush F dX6_openSale_10 rfl ?_
    refine ok_icmp_lt F 17 dX6_openSale_12 (by decide) (by omega) (by omega) (fun c_2 => ?_) (fun c_2 => ?_)
    · refine ok_aload_n F dX6_openSale_17 1 rfl ?_
      refine ok_getr F dX6_openSale_18 kF_X6_36 sh_21 rfl ?_
      refine ok_iload_n F dX6_openSale_21 0 rfl ?_
      refine ok_iload_n F dX6_openSale_22 2 rfl ?_
      refine ok_iast F dX6_openSale_23 sh_30 (by first | decide | assumption) (by omega) (by omega) (fun m_3 e_4 => ?_)
      refine ok_iconst F dX6_openSale_24 ?_
      refine ok_istore_n (lv' := [(3, pI 0), (2, pI (fstD (mem 29) (mem 21 1))), (0, pR 21), (1, pI p)]) F dX6_openSale_25 (by decide) rfl ?_
      have hL_26 : ∀ (n_26 : Nat) (k : Int) (m : Mem), (0 ≤ k ∧ k ≤ 8 ∧ m = opnM mem 21 (fstD (mem 29) (mem 21 1)).toNat p k.toNat) → (8 - k).toNat = n_26 → Ok shp X 4 26 [(0, pR 21), (1, pI p), (2, pI (fstD (mem 29) (mem 21 1))), (3, pI k)] [] m := by
        intro n_26
        induction n_26 using Nat.strongRecOn with
        | _ n_26 ih_26 =>
          intro k m hI_26 hn_26
          refine ok_iload_n F dX6_openSale_26 3 rfl ?_
          refine ok_bipush F dX6_openSale_27 rfl ?_
          refine ok_icmp_ge F 50 dX6_openSale_29 (by decide) (by omega) (by omega) (fun c_5 => ?_) (fun c_5 => ?_)
          · refine ok_iload_n F dX6_openSale_50 2 rfl ?_
            refine ok_iret F G dX6_openSale_51 ?_
            exact ⟨rfl, by rw [hI_26.2.2, show k = 8 by omega]; rfl⟩
          · refine ok_aload_n F dX6_openSale_32 0 rfl ?_
            refine ok_getr F dX6_openSale_33 kF_X6_39 sh_21 rfl ?_
            refine ok_iload_n F dX6_openSale_36 2 rfl ?_
            refine ok_bipush F dX6_openSale_37 rfl ?_
            refine ok_imul F dX6_openSale_39 ?_
            refine ok_iload_n F dX6_openSale_40 3 rfl ?_
            refine ok_iadd F dX6_openSale_41 ?_
            refine ok_iconst F dX6_openSale_42 ?_
            refine ok_iast F dX6_openSale_43 sh_31 (by first | decide | assumption) (by omega) (by omega) (fun m_6 e_7 => ?_)
            refine ok_iinc (lv' := [(3, pI (k + 1)), (0, pR 21), (1, pI p), (2, pI (fstD (mem 29) (mem 21 1)))]) F dX6_openSale_44 3 rfl (by decide) rfl ?_
            refine ok_goto F 26 dX6_openSale_47 (by decide) ?_
            refine ok_lvp [1, 2, 3, 0] (lv' := [(0, pR 21), (1, pI p), (2, pI (fstD (mem 29) (mem 21 1))), (3, pI (k + 1))]) rfl ?_
            refine ih_26 _ ?_ (k + 1) m_6 ?_ rfl
            · omega
            · refine ⟨by omega, by omega, ?_⟩
              rw [e_7, hI_26.2.2, show (k + 1).toNat = k.toNat + 1 by omega, show (fstD (mem 29) (mem 21 1) * 8 + k).toNat = 8 * (fstD (mem 29) (mem 21 1)).toNat + k.toNat by omega]
              exact opnM_s _ _ _ _ _
      refine ok_lvp [2, 3, 1, 0] (lv' := [(0, pR 21), (1, pI p), (2, pI (fstD (mem 29) (mem 21 1))), (3, pI 0)]) rfl ?_
      refine hL_26 _ 0 m_3 ?_ rfl
      exact ⟨by omega, by omega, by rw [e_4]; exact (opnM_0 _ _ _ _).symm⟩
    · exfalso; omega
set_option maxHeartbeats 4000000 in
set_option maxRecDepth 100000 in
theorem m_X6_openSale_32 (l : Launch) (p : Int) (mem : Mem) (hN1 : 0 ≤ mem 32 1 ∧ mem 32 1 ≤ 5) (hA : 0 ≤ fstD (mem 40) (mem 32 1) ∧ fstD (mem 40) (mem 32 1) < 40) : Ret shp l yX6_openSale cX6_openSale 4 (some .int) 2 [pR 32, pI p] mem (fun rv mv => rv = some (pI (fstD (mem 40) (mem 32 1))) ∧ mv = opnM mem 32 (fstD (mem 40) (mem 32 1)).toNat p 8) := by
  refine ret_of (by decide +kernel) (Nat.le_of_ble_eq_true rfl) (fun X hX F G => ?_)
  show Ok shp X 4 0 [(0, pR 32), (1, pI p)] [] mem
  refine ok_aload_n F dX6_openSale_0 0 rfl ?_
  refine ok_callv F [] dX6_openSale_1 kM_X6_allSales kI_X6_allSales kV_X6_allSales kL_X6_67 (ci := 6) rfl sh_32 rfl (by decide) (Nat.le_of_ble_eq_true rfl) rfl (m_X6_allSales_32 _ mem (by omega)) ?_
  rintro _ _ ⟨rfl, rfl⟩
  refine ok_istore_n (lv' := [(2, pI (fstD (mem 40) (mem 32 1))), (0, pR 32), (1, pI p)]) F dX6_openSale_4 (by decide) rfl ?_
  refine ok_iload_n F dX6_openSale_5 0 rfl ?_
  refine ok_if_lt F 15 dX6_openSale_6 (by decide) (by omega) (fun c_1 => ?_) (fun c_1 => ?_)
  · exfalso; omega
  · refine ok_iload_n F dX6_openSale_9 0 rfl ?_
    refine ok_bipush F dX6_openSale_10 rfl ?_
    refine ok_icmp_lt F 17 dX6_openSale_12 (by decide) (by omega) (by omega) (fun c_2 => ?_) (fun c_2 => ?_)
    · refine ok_aload_n F dX6_openSale_17 1 rfl ?_
      refine ok_getr F dX6_openSale_18 kF_X6_36 sh_32 rfl ?_
      refine ok_iload_n F dX6_openSale_21 0 rfl ?_
      refine ok_iload_n F dX6_openSale_22 2 rfl ?_
      refine ok_iast F dX6_openSale_23 sh_41 (by first | decide | assumption) (by omega) (by omega) (fun m_3 e_4 => ?_)
      refine ok_iconst F dX6_openSale_24 ?_
      refine ok_istore_n (lv' := [(3, pI 0), (2, pI (fstD (mem 40) (mem 32 1))), (0, pR 32), (1, pI p)]) F dX6_openSale_25 (by decide) rfl ?_
      have hL_26 : ∀ (n_26 : Nat) (k : Int) (m : Mem), (0 ≤ k ∧ k ≤ 8 ∧ m = opnM mem 32 (fstD (mem 40) (mem 32 1)).toNat p k.toNat) → (8 - k).toNat = n_26 → Ok shp X 4 26 [(0, pR 32), (1, pI p), (2, pI (fstD (mem 40) (mem 32 1))), (3, pI k)] [] m := by
        intro n_26
        induction n_26 using Nat.strongRecOn with
        | _ n_26 ih_26 =>
          intro k m hI_26 hn_26
          refine ok_iload_n F dX6_openSale_26 3 rfl ?_
          refine ok_bipush F dX6_openSale_27 rfl ?_
          refine ok_icmp_ge F 50 dX6_openSale_29 (by decide) (by omega) (by omega) (fun c_5 => ?_) (fun c_5 => ?_)
          · refine ok_iload_n F dX6_openSale_50 2 rfl ?_
            refine ok_iret F G dX6_openSale_51 ?_
            exact ⟨rfl, by rw [hI_26.2.2, show k = 8 by omega]; rfl⟩
          · refine ok_aload_n F dX6_openSale_32 0 rfl ?_
            refine ok_getr F dX6_openSale_33 kF_X6_39 sh_32 rfl ?_
            refine ok_iload_n F dX6_openSale_36 2 rfl ?_
            refine ok_bipush F dX6_openSale_37 rfl ?_
            refine ok_imul F dX6_openSale_39 ?_
            refine ok_iload_n F dX6_openSale_40 3 rfl ?_
            refine ok_iadd F dX6_openSale_41 ?_
            refine ok_iconst F dX6_openSale_42 ?_
            refine ok_iast F dX6_openSale_43 sh_42 (by first | decide | assumption) (by omega) (by omega) (fun m_6 e_7 => ?_)
            refine ok_iinc (lv' := [(3, pI (k + 1)), (0, pR 32), (1, pI p), (2, pI (fstD (mem 40) (mem 32 1)))]) F dX6_openSale_44 3 rfl (by decide) rfl ?_
            refine ok_goto F 26 dX6_openSale_47 (by decide) ?_
            refine ok_lvp [1, 2, 3, 0] (lv' := [(0, pR 32), (1, pI p), (2, pI (fstD (mem 40) (mem 32 1))), (3, pI (k + 1))]) rfl ?_
            refine ih_26 _ ?_ (k + 1) m_6 ?_ rfl
            · omega
            · refine ⟨by omega, by omega, ?_⟩
              rw [e_7, hI_26.2.2, show (k + 1).toNat = k.toNat + 1 by omega, show (fstD (mem 40) (mem 32 1) * 8 + k).toNat = 8 * (fstD (mem 40) (mem 32 1)).toNat + k.toNat by omega]
              exact opnM_s _ _ _ _ _
      refine ok_lvp [2, 3, 1, 0] (lv' := [(0, pR 32), (1, pI p), (2, pI (fstD (mem 40) (mem 32 1))), (3, pI 0)]) rfl ?_
      refine hL_26 _ 0 m_3 ?_ rfl
      exact ⟨by omega, by omega, by rw [e_4]; exact (opnM_0 _ _ _ _).symm⟩
    · exfalso; omega
theorem dX6_addGiven_0 : decode cX6_addGiven 0 = .ok (.iload_n 1, 1) := by decide +kernel
theorem dX6_addGiven_1 : decode cX6_addGiven 1 = .ok (.bipush 8, 2) := by decide +kernel
theorem dX6_addGiven_3 : decode cX6_addGiven 3 = .ok (.imul, 1) := by decide +kernel
theorem dX6_addGiven_4 : decode cX6_addGiven 4 = .ok (.iload_n 2, 1) := by decide +kernel
theorem dX6_addGiven_5 : decode cX6_addGiven 5 = .ok (.iadd, 1) := by decide +kernel
theorem dX6_addGiven_6 : decode cX6_addGiven 6 = .ok (.istore_n 3, 1) := by decide +kernel
theorem dX6_addGiven_7 : decode cX6_addGiven 7 = .ok (.iload_n 3, 1) := by decide +kernel
theorem dX6_addGiven_8 : decode cX6_addGiven 8 = .ok (.ifCond .lt 22, 3) := by decide +kernel
theorem dX6_addGiven_11 : decode cX6_addGiven 11 = .ok (.iload_n 3, 1) := by decide +kernel
theorem dX6_addGiven_12 : decode cX6_addGiven 12 = .ok (.aload_n 0, 1) := by decide +kernel
theorem dX6_addGiven_13 : decode cX6_addGiven 13 = .ok (.getfield 39, 3) := by decide +kernel
theorem dX6_addGiven_16 : decode cX6_addGiven 16 = .ok (.arraylength, 1) := by decide +kernel
theorem dX6_addGiven_17 : decode cX6_addGiven 17 = .ok (.if_icmp .ge 13, 3) := by decide +kernel
theorem dX6_addGiven_20 : decode cX6_addGiven 20 = .ok (.aload_n 0, 1) := by decide +kernel
theorem dX6_addGiven_21 : decode cX6_addGiven 21 = .ok (.getfield 39, 3) := by decide +kernel
theorem dX6_addGiven_24 : decode cX6_addGiven 24 = .ok (.iload_n 3, 1) := by decide +kernel
theorem dX6_addGiven_25 : decode cX6_addGiven 25 = .ok (.dup2, 1) := by decide +kernel
theorem dX6_addGiven_26 : decode cX6_addGiven 26 = .ok (.iaload, 1) := by decide +kernel
theorem dX6_addGiven_27 : decode cX6_addGiven 27 = .ok (.iconst 1, 1) := by decide +kernel
theorem dX6_addGiven_28 : decode cX6_addGiven 28 = .ok (.iadd, 1) := by decide +kernel
theorem dX6_addGiven_29 : decode cX6_addGiven 29 = .ok (.iastore, 1) := by decide +kernel
theorem dX6_addGiven_30 : decode cX6_addGiven 30 = .ok (.return_, 1) := by decide +kernel
set_option maxHeartbeats 4000000 in
set_option maxRecDepth 100000 in
theorem m_X6_addGiven_21 (l : Launch) (s : Int) (k : Int) (mem : Mem) (hs : 0 ≤ s ∧ s < 40) (hk : 0 ≤ k ∧ k < 8) : Ret shp l yX6_addGiven cX6_addGiven 4 none 0 [pR 21, pI s, pI k] mem (fun rv mv => rv = none ∧ mv = mset mem 31 (s * 8 + k).toNat (mem 31 (s * 8 + k).toNat + 1)) := by
  refine ret_of (by decide +kernel) (Nat.le_of_ble_eq_true rfl) (fun X hX F G => ?_)
  show Ok shp X 4 0 [(0, pR 21), (1, pI s), (2, pI k)] [] mem
  refine ok_iload_n F dX6_addGiven_0 1 rfl ?_
  refine ok_bipush F dX6_addGiven_1 rfl ?_
  refine ok_imul F dX6_addGiven_3 ?_
  refine ok_iload_n F dX6_addGiven_4 2 rfl ?_
  refine ok_iadd F dX6_addGiven_5 ?_
  refine ok_istore_n (lv' := [(3, pI ((s * 8) + k)), (0, pR 21), (1, pI s), (2, pI k)]) F dX6_addGiven_6 (by decide) rfl ?_
  refine ok_iload_n F dX6_addGiven_7 0 rfl ?_
  refine ok_if_lt F 30 dX6_addGiven_8 (by decide) (by omega) (fun c_1 => ?_) (fun c_1 => ?_)
  · exfalso; omega
  · refine ok_iload_n F dX6_addGiven_11 0 rfl ?_
    refine ok_aload_n F dX6_addGiven_12 1 rfl ?_
    refine ok_getr F dX6_addGiven_13 kF_X6_39 sh_21 rfl ?_
    refine ok_alen F dX6_addGiven_16 sh_31 (by decide) ?_
    refine ok_icmp_ge F 30 dX6_addGiven_17 (by decide) (by omega) (by omega) (fun c_2 => ?_) (fun c_2 => ?_)
    · exfalso; omega
    · refine ok_aload_n F dX6_addGiven_20 1 rfl ?_
      refine ok_getr F dX6_addGiven_21 kF_X6_39 sh_21 rfl ?_
      refine ok_iload_n F dX6_addGiven_24 0 rfl ?_
      refine ok_dup2 F dX6_addGiven_25 rfl rfl ?_
      refine ok_iald (v := mem 31 (((s * 8) + k).toNat)) F dX6_addGiven_26 sh_31 (by first | decide | assumption) (by omega) (by omega) rfl ?_
      refine ok_iconst F dX6_addGiven_27 ?_
      refine ok_iadd F dX6_addGiven_28 ?_
      refine ok_iast F dX6_addGiven_29 sh_31 (by first | decide | assumption) (by omega) (by omega) (fun m_3 e_4 => ?_)
      refine ok_vret F G dX6_addGiven_30 ?_
      exact ⟨rfl, by rw [e_4]⟩
set_option maxHeartbeats 4000000 in
set_option maxRecDepth 100000 in
theorem m_X6_addGiven_32 (l : Launch) (s : Int) (k : Int) (mem : Mem) (hs : 0 ≤ s ∧ s < 40) (hk : 0 ≤ k ∧ k < 8) : Ret shp l yX6_addGiven cX6_addGiven 4 none 0 [pR 32, pI s, pI k] mem (fun rv mv => rv = none ∧ mv = mset mem 42 (s * 8 + k).toNat (mem 42 (s * 8 + k).toNat + 1)) := by
  refine ret_of (by decide +kernel) (Nat.le_of_ble_eq_true rfl) (fun X hX F G => ?_)
  show Ok shp X 4 0 [(0, pR 32), (1, pI s), (2, pI k)] [] mem
  refine ok_iload_n F dX6_addGiven_0 1 rfl ?_
  refine ok_bipush F dX6_addGiven_1 rfl ?_
  refine ok_imul F dX6_addGiven_3 ?_
  refine ok_iload_n F dX6_addGiven_4 2 rfl ?_
  refine ok_iadd F dX6_addGiven_5 ?_
  refine ok_istore_n (lv' := [(3, pI ((s * 8) + k)), (0, pR 32), (1, pI s), (2, pI k)]) F dX6_addGiven_6 (by decide) rfl ?_
  refine ok_iload_n F dX6_addGiven_7 0 rfl ?_
  refine ok_if_lt F 30 dX6_addGiven_8 (by decide) (by omega) (fun c_1 => ?_) (fun c_1 => ?_)
  · exfalso; omega
  · refine ok_iload_n F dX6_addGiven_11 0 rfl ?_
    refine ok_aload_n F dX6_addGiven_12 1 rfl ?_
    refine ok_getr F dX6_addGiven_13 kF_X6_39 sh_32 rfl ?_
    refine ok_alen F dX6_addGiven_16 sh_42 (by decide) ?_
    refine ok_icmp_ge F 30 dX6_addGiven_17 (by decide) (by omega) (by omega) (fun c_2 => ?_) (fun c_2 => ?_)
    · exfalso; omega
    · refine ok_aload_n F dX6_addGiven_20 1 rfl ?_
      refine ok_getr F dX6_addGiven_21 kF_X6_39 sh_32 rfl ?_
      refine ok_iload_n F dX6_addGiven_24 0 rfl ?_
      refine ok_dup2 F dX6_addGiven_25 rfl rfl ?_
      refine ok_iald (v := mem 42 (((s * 8) + k).toNat)) F dX6_addGiven_26 sh_42 (by first | decide | assumption) (by omega) (by omega) rfl ?_
      refine ok_iconst F dX6_addGiven_27 ?_
      refine ok_iadd F dX6_addGiven_28 ?_
      refine ok_iast F dX6_addGiven_29 sh_42 (by first | decide | assumption) (by omega) (by omega) (fun m_3 e_4 => ?_)
      refine ok_vret F G dX6_addGiven_30 ?_
      exact ⟨rfl, by rw [e_4]⟩
theorem dX6_closeSale_0 : decode cX6_closeSale 0 = .ok (.aload_n 0, 1) := by decide +kernel
theorem dX6_closeSale_1 : decode cX6_closeSale 1 = .ok (.getfield 46, 3) := by decide +kernel
theorem dX6_closeSale_4 : decode cX6_closeSale 4 = .ok (.iconst 1, 1) := by decide +kernel
theorem dX6_closeSale_5 : decode cX6_closeSale 5 = .ok (.if_icmp .lt 26, 3) := by decide +kernel
theorem dX6_closeSale_8 : decode cX6_closeSale 8 = .ok (.aload_n 0, 1) := by decide +kernel
theorem dX6_closeSale_9 : decode cX6_closeSale 9 = .ok (.getfield 46, 3) := by decide +kernel
theorem dX6_closeSale_12 : decode cX6_closeSale 12 = .ok (.iconst 5, 1) := by decide +kernel
theorem dX6_closeSale_13 : decode cX6_closeSale 13 = .ok (.if_icmp .gt 18, 3) := by decide +kernel
theorem dX6_closeSale_16 : decode cX6_closeSale 16 = .ok (.aload_n 0, 1) := by decide +kernel
theorem dX6_closeSale_17 : decode cX6_closeSale 17 = .ok (.getfield 33, 3) := by decide +kernel
theorem dX6_closeSale_20 : decode cX6_closeSale 20 = .ok (.aload_n 0, 1) := by decide +kernel
theorem dX6_closeSale_21 : decode cX6_closeSale 21 = .ok (.getfield 46, 3) := by decide +kernel
theorem dX6_closeSale_24 : decode cX6_closeSale 24 = .ok (.iconst 1, 1) := by decide +kernel
theorem dX6_closeSale_25 : decode cX6_closeSale 25 = .ok (.isub, 1) := by decide +kernel
theorem dX6_closeSale_26 : decode cX6_closeSale 26 = .ok (.dup2, 1) := by decide +kernel
theorem dX6_closeSale_27 : decode cX6_closeSale 27 = .ok (.iaload, 1) := by decide +kernel
theorem dX6_closeSale_28 : decode cX6_closeSale 28 = .ok (.iconst 1, 1) := by decide +kernel
theorem dX6_closeSale_29 : decode cX6_closeSale 29 = .ok (.iadd, 1) := by decide +kernel
theorem dX6_closeSale_30 : decode cX6_closeSale 30 = .ok (.iastore, 1) := by decide +kernel
theorem dX6_closeSale_31 : decode cX6_closeSale 31 = .ok (.return_, 1) := by decide +kernel
set_option maxHeartbeats 4000000 in
set_option maxRecDepth 100000 in
theorem m_X6_closeSale_21 (l : Launch) (mem : Mem) (hN1 : 1 ≤ mem 21 1 ∧ mem 21 1 ≤ 5) : Ret shp l yX6_closeSale cX6_closeSale 1 none 0 [pR 21] mem (fun rv mv => rv = none ∧ mv = mset mem 29 (mem 21 1 - 1).toNat (mem 29 (mem 21 1 - 1).toNat + 1)) := by
  refine ret_of (by decide +kernel) (Nat.le_of_ble_eq_true rfl) (fun X hX F G => ?_)
  show Ok shp X 1 0 [(0, pR 21)] [] mem
  refine ok_aload_n F dX6_closeSale_0 0 rfl ?_
  refine ok_getf (v := mem 21 1) F dX6_closeSale_1 kF_X6_46 sh_21 rfl rfl ?_
  refine ok_iconst F dX6_closeSale_4 ?_
  refine ok_icmp_lt F 31 dX6_closeSale_5 (by decide) (by omega) (by omega) (fun c_1 => ?_) (fun c_1 => ?_)
  · exfalso; omega
  · refine ok_aload_n F dX6_closeSale_8 0 rfl ?_
    refine ok_getf (v := mem 21 1) F dX6_closeSale_9 kF_X6_46 sh_21 rfl rfl ?_
    refine ok_iconst F dX6_closeSale_12 ?_
    refine ok_icmp_gt F 31 dX6_closeSale_13 (by decide) (by omega) (by omega) (fun c_2 => ?_) (fun c_2 => ?_)
    · exfalso; omega
    · refine ok_aload_n F dX6_closeSale_16 0 rfl ?_
      refine ok_getr F dX6_closeSale_17 kF_X6_33 sh_21 rfl ?_
      refine ok_aload_n F dX6_closeSale_20 0 rfl ?_
      refine ok_getf (v := mem 21 1) F dX6_closeSale_21 kF_X6_46 sh_21 rfl rfl ?_
      refine ok_iconst F dX6_closeSale_24 ?_
      refine ok_isub F dX6_closeSale_25 ?_
      refine ok_dup2 F dX6_closeSale_26 rfl rfl ?_
      refine ok_iald (v := mem 29 (((mem 21 1) - 1).toNat)) F dX6_closeSale_27 sh_29 (by first | decide | assumption) (by omega) (by omega) rfl ?_
      refine ok_iconst F dX6_closeSale_28 ?_
      refine ok_iadd F dX6_closeSale_29 ?_
      refine ok_iast F dX6_closeSale_30 sh_29 (by first | decide | assumption) (by omega) (by omega) (fun m_3 e_4 => ?_)
      refine ok_vret F G dX6_closeSale_31 ?_
      exact ⟨rfl, by rw [e_4]⟩
set_option maxHeartbeats 4000000 in
set_option maxRecDepth 100000 in
theorem m_X6_closeSale_32 (l : Launch) (mem : Mem) (hN1 : 1 ≤ mem 32 1 ∧ mem 32 1 ≤ 5) : Ret shp l yX6_closeSale cX6_closeSale 1 none 0 [pR 32] mem (fun rv mv => rv = none ∧ mv = mset mem 40 (mem 32 1 - 1).toNat (mem 40 (mem 32 1 - 1).toNat + 1)) := by
  refine ret_of (by decide +kernel) (Nat.le_of_ble_eq_true rfl) (fun X hX F G => ?_)
  show Ok shp X 1 0 [(0, pR 32)] [] mem
  refine ok_aload_n F dX6_closeSale_0 0 rfl ?_
  refine ok_getf (v := mem 32 1) F dX6_closeSale_1 kF_X6_46 sh_32 rfl rfl ?_
  refine ok_iconst F dX6_closeSale_4 ?_
  refine ok_icmp_lt F 31 dX6_closeSale_5 (by decide) (by omega) (by omega) (fun c_1 => ?_) (fun c_1 => ?_)
  · exfalso; omega
  · refine ok_aload_n F dX6_closeSale_8 0 rfl ?_
    refine ok_getf (v := mem 32 1) F dX6_closeSale_9 kF_X6_46 sh_32 rfl rfl ?_
    refine ok_iconst F dX6_closeSale_12 ?_
    refine ok_icmp_gt F 31 dX6_closeSale_13 (by decide) (by omega) (by omega) (fun c_2 => ?_) (fun c_2 => ?_)
    · exfalso; omega
    · refine ok_aload_n F dX6_closeSale_16 0 rfl ?_
      refine ok_getr F dX6_closeSale_17 kF_X6_33 sh_32 rfl ?_
      refine ok_aload_n F dX6_closeSale_20 0 rfl ?_
      refine ok_getf (v := mem 32 1) F dX6_closeSale_21 kF_X6_46 sh_32 rfl rfl ?_
      refine ok_iconst F dX6_closeSale_24 ?_
      refine ok_isub F dX6_closeSale_25 ?_
      refine ok_dup2 F dX6_closeSale_26 rfl rfl ?_
      refine ok_iald (v := mem 40 (((mem 32 1) - 1).toNat)) F dX6_closeSale_27 sh_40 (by first | decide | assumption) (by omega) (by omega) rfl ?_
      refine ok_iconst F dX6_closeSale_28 ?_
      refine ok_iadd F dX6_closeSale_29 ?_
      refine ok_iast F dX6_closeSale_30 sh_40 (by first | decide | assumption) (by omega) (by omega) (fun m_3 e_4 => ?_)
      refine ok_vret F G dX6_closeSale_31 ?_
      exact ⟨rfl, by rw [e_4]⟩
theorem dX6_rowOf_0 : decode cX6_rowOf 0 = .ok (.iload_n 1, 1) := by decide +kernel
theorem dX6_rowOf_1 : decode cX6_rowOf 1 = .ok (.tableswitch 42 0 2 #[27, 32, 37], 27) := by decide +kernel
theorem dX6_rowOf_28 : decode cX6_rowOf 28 = .ok (.aload_n 0, 1) := by decide +kernel
theorem dX6_rowOf_29 : decode cX6_rowOf 29 = .ok (.getfield 15, 3) := by decide +kernel
theorem dX6_rowOf_32 : decode cX6_rowOf 32 = .ok (.areturn, 1) := by decide +kernel
theorem dX6_rowOf_33 : decode cX6_rowOf 33 = .ok (.aload_n 0, 1) := by decide +kernel
theorem dX6_rowOf_34 : decode cX6_rowOf 34 = .ok (.getfield 18, 3) := by decide +kernel
theorem dX6_rowOf_37 : decode cX6_rowOf 37 = .ok (.areturn, 1) := by decide +kernel
theorem dX6_rowOf_38 : decode cX6_rowOf 38 = .ok (.aload_n 0, 1) := by decide +kernel
theorem dX6_rowOf_39 : decode cX6_rowOf 39 = .ok (.getfield 21, 3) := by decide +kernel
theorem dX6_rowOf_42 : decode cX6_rowOf 42 = .ok (.areturn, 1) := by decide +kernel
theorem dX6_rowOf_43 : decode cX6_rowOf 43 = .ok (.aload_n 0, 1) := by decide +kernel
theorem dX6_rowOf_44 : decode cX6_rowOf 44 = .ok (.getfield 24, 3) := by decide +kernel
theorem dX6_rowOf_47 : decode cX6_rowOf 47 = .ok (.areturn, 1) := by decide +kernel
set_option maxHeartbeats 4000000 in
set_option maxRecDepth 100000 in
theorem m_X6_rowOf_21 (l : Launch) (r : Int) (mem : Mem) (hr : 0 ≤ r ∧ r ≤ 3) : Ret shp l yX6_rowOf cX6_rowOf 2 (some (.array .int)) 0 [pR 21, pI r] mem (fun rv mv => rv = some (pR (23 + r.toNat)) ∧ mem = mv) := by
  refine ret_of (by decide +kernel) (Nat.le_of_ble_eq_true rfl) (fun X hX F G => ?_)
  show Ok shp X 2 0 [(0, pR 21), (1, pI r)] [] mem
  refine ok_iload_n F dX6_rowOf_0 1 rfl ?_
  by_cases c_1o : r < 0 ∨ 2 < r
  · refine ok_tabOut F 43 dX6_rowOf_1 (by omega) c_1o (by decide) ?_
    refine ok_aload_n F dX6_rowOf_43 0 rfl ?_
    refine ok_getr F dX6_rowOf_44 kF_X6_24 sh_21 rfl ?_
    refine ok_aret F G dX6_rowOf_47 (Or.inr ⟨_, rfl⟩) ?_
    refine ⟨?_, rfl⟩
    rw [show 23 + r.toNat = 26 by omega]
  by_cases c_1_0 : r = 0
  · refine ok_tabIn F 28 dX6_rowOf_1 (by omega) (by omega) (by omega) (off := 27) (by rw [c_1_0]; rfl) (by decide) ?_
    refine ok_aload_n F dX6_rowOf_28 0 rfl ?_
    refine ok_getr F dX6_rowOf_29 kF_X6_15 sh_21 rfl ?_
    refine ok_aret F G dX6_rowOf_32 (Or.inr ⟨_, rfl⟩) ?_
    refine ⟨?_, rfl⟩
    rw [show 23 + r.toNat = 23 by omega]
  by_cases c_1_1 : r = 1
  · refine ok_tabIn F 33 dX6_rowOf_1 (by omega) (by omega) (by omega) (off := 32) (by rw [c_1_1]; rfl) (by decide) ?_
    refine ok_aload_n F dX6_rowOf_33 0 rfl ?_
    refine ok_getr F dX6_rowOf_34 kF_X6_18 sh_21 rfl ?_
    refine ok_aret F G dX6_rowOf_37 (Or.inr ⟨_, rfl⟩) ?_
    refine ⟨?_, rfl⟩
    rw [show 23 + r.toNat = 24 by omega]
  by_cases c_1_2 : r = 2
  · refine ok_tabIn F 38 dX6_rowOf_1 (by omega) (by omega) (by omega) (off := 37) (by rw [c_1_2]; rfl) (by decide) ?_
    refine ok_aload_n F dX6_rowOf_38 0 rfl ?_
    refine ok_getr F dX6_rowOf_39 kF_X6_21 sh_21 rfl ?_
    refine ok_aret F G dX6_rowOf_42 (Or.inr ⟨_, rfl⟩) ?_
    refine ⟨?_, rfl⟩
    rw [show 23 + r.toNat = 25 by omega]
  exfalso; omega
set_option maxHeartbeats 4000000 in
set_option maxRecDepth 100000 in
theorem m_X6_rowOf_32 (l : Launch) (r : Int) (mem : Mem) (hr : 0 ≤ r ∧ r ≤ 3) : Ret shp l yX6_rowOf cX6_rowOf 2 (some (.array .int)) 0 [pR 32, pI r] mem (fun rv mv => rv = some (pR (34 + r.toNat)) ∧ mem = mv) := by
  refine ret_of (by decide +kernel) (Nat.le_of_ble_eq_true rfl) (fun X hX F G => ?_)
  show Ok shp X 2 0 [(0, pR 32), (1, pI r)] [] mem
  refine ok_iload_n F dX6_rowOf_0 1 rfl ?_
  by_cases c_1o : r < 0 ∨ 2 < r
  · refine ok_tabOut F 43 dX6_rowOf_1 (by omega) c_1o (by decide) ?_
    refine ok_aload_n F dX6_rowOf_43 0 rfl ?_
    refine ok_getr F dX6_rowOf_44 kF_X6_24 sh_32 rfl ?_
    refine ok_aret F G dX6_rowOf_47 (Or.inr ⟨_, rfl⟩) ?_
    refine ⟨?_, rfl⟩
    rw [show 34 + r.toNat = 37 by omega]
  by_cases c_1_0 : r = 0
  · refine ok_tabIn F 28 dX6_rowOf_1 (by omega) (by omega) (by omega) (off := 27) (by rw [c_1_0]; rfl) (by decide) ?_
    refine ok_aload_n F dX6_rowOf_28 0 rfl ?_
    refine ok_getr F dX6_rowOf_29 kF_X6_15 sh_32 rfl ?_
    refine ok_aret F G dX6_rowOf_32 (Or.inr ⟨_, rfl⟩) ?_
    refine ⟨?_, rfl⟩
    rw [show 34 + r.toNat = 34 by omega]
  by_cases c_1_1 : r = 1
  · refine ok_tabIn F 33 dX6_rowOf_1 (by omega) (by omega) (by omega) (off := 32) (by rw [c_1_1]; rfl) (by decide) ?_
    refine ok_aload_n F dX6_rowOf_33 0 rfl ?_
    refine ok_getr F dX6_rowOf_34 kF_X6_18 sh_32 rfl ?_
    refine ok_aret F G dX6_rowOf_37 (Or.inr ⟨_, rfl⟩) ?_
    refine ⟨?_, rfl⟩
    rw [show 34 + r.toNat = 35 by omega]
  by_cases c_1_2 : r = 2
  · refine ok_tabIn F 38 dX6_rowOf_1 (by omega) (by omega) (by omega) (off := 37) (by rw [c_1_2]; rfl) (by decide) ?_
    refine ok_aload_n F dX6_rowOf_38 0 rfl ?_
    refine ok_getr F dX6_rowOf_39 kF_X6_21 sh_32 rfl ?_
    refine ok_aret F G dX6_rowOf_42 (Or.inr ⟨_, rfl⟩) ?_
    refine ⟨?_, rfl⟩
    rw [show 34 + r.toNat = 36 by omega]
  exfalso; omega
theorem dX6_clear_0 : decode cX6_clear 0 = .ok (.aload_n 0, 1) := by decide +kernel
theorem dX6_clear_1 : decode cX6_clear 1 = .ok (.iconst 0, 1) := by decide +kernel
theorem dX6_clear_2 : decode cX6_clear 2 = .ok (.putfield 42, 3) := by decide +kernel
theorem dX6_clear_5 : decode cX6_clear 5 = .ok (.aload_n 0, 1) := by decide +kernel
theorem dX6_clear_6 : decode cX6_clear 6 = .ok (.iconst 0, 1) := by decide +kernel
theorem dX6_clear_7 : decode cX6_clear 7 = .ok (.putfield 46, 3) := by decide +kernel
theorem dX6_clear_10 : decode cX6_clear 10 = .ok (.iconst 0, 1) := by decide +kernel
theorem dX6_clear_11 : decode cX6_clear 11 = .ok (.istore_n 1, 1) := by decide +kernel
theorem dX6_clear_12 : decode cX6_clear 12 = .ok (.iload_n 1, 1) := by decide +kernel
theorem dX6_clear_13 : decode cX6_clear 13 = .ok (.bipush 8, 2) := by decide +kernel
theorem dX6_clear_15 : decode cX6_clear 15 = .ok (.if_icmp .ge 60, 3) := by decide +kernel
theorem dX6_clear_18 : decode cX6_clear 18 = .ok (.aload_n 0, 1) := by decide +kernel
theorem dX6_clear_19 : decode cX6_clear 19 = .ok (.getfield 9, 3) := by decide +kernel
theorem dX6_clear_22 : decode cX6_clear 22 = .ok (.iload_n 1, 1) := by decide +kernel
theorem dX6_clear_23 : decode cX6_clear 23 = .ok (.iconst 0, 1) := by decide +kernel
theorem dX6_clear_24 : decode cX6_clear 24 = .ok (.iastore, 1) := by decide +kernel
theorem dX6_clear_25 : decode cX6_clear 25 = .ok (.aload_n 0, 1) := by decide +kernel
theorem dX6_clear_26 : decode cX6_clear 26 = .ok (.getfield 15, 3) := by decide +kernel
theorem dX6_clear_29 : decode cX6_clear 29 = .ok (.iload_n 1, 1) := by decide +kernel
theorem dX6_clear_30 : decode cX6_clear 30 = .ok (.iconst 0, 1) := by decide +kernel
theorem dX6_clear_31 : decode cX6_clear 31 = .ok (.iastore, 1) := by decide +kernel
theorem dX6_clear_32 : decode cX6_clear 32 = .ok (.aload_n 0, 1) := by decide +kernel
theorem dX6_clear_33 : decode cX6_clear 33 = .ok (.getfield 18, 3) := by decide +kernel
theorem dX6_clear_36 : decode cX6_clear 36 = .ok (.iload_n 1, 1) := by decide +kernel
theorem dX6_clear_37 : decode cX6_clear 37 = .ok (.iconst 0, 1) := by decide +kernel
theorem dX6_clear_38 : decode cX6_clear 38 = .ok (.iastore, 1) := by decide +kernel
theorem dX6_clear_39 : decode cX6_clear 39 = .ok (.aload_n 0, 1) := by decide +kernel
theorem dX6_clear_40 : decode cX6_clear 40 = .ok (.getfield 21, 3) := by decide +kernel
theorem dX6_clear_43 : decode cX6_clear 43 = .ok (.iload_n 1, 1) := by decide +kernel
theorem dX6_clear_44 : decode cX6_clear 44 = .ok (.bipush 99, 2) := by decide +kernel
theorem dX6_clear_46 : decode cX6_clear 46 = .ok (.iastore, 1) := by decide +kernel
theorem dX6_clear_47 : decode cX6_clear 47 = .ok (.aload_n 0, 1) := by decide +kernel
theorem dX6_clear_48 : decode cX6_clear 48 = .ok (.getfield 24, 3) := by decide +kernel
theorem dX6_clear_51 : decode cX6_clear 51 = .ok (.iload_n 1, 1) := by decide +kernel
theorem dX6_clear_52 : decode cX6_clear 52 = .ok (.bipush 10, 2) := by decide +kernel
theorem dX6_clear_54 : decode cX6_clear 54 = .ok (.iastore, 1) := by decide +kernel
theorem dX6_clear_55 : decode cX6_clear 55 = .ok (.aload_n 0, 1) := by decide +kernel
theorem dX6_clear_56 : decode cX6_clear 56 = .ok (.getfield 27, 3) := by decide +kernel
theorem dX6_clear_59 : decode cX6_clear 59 = .ok (.iload_n 1, 1) := by decide +kernel
theorem dX6_clear_60 : decode cX6_clear 60 = .ok (.iconst 0, 1) := by decide +kernel
theorem dX6_clear_61 : decode cX6_clear 61 = .ok (.iastore, 1) := by decide +kernel
theorem dX6_clear_62 : decode cX6_clear 62 = .ok (.aload_n 0, 1) := by decide +kernel
theorem dX6_clear_63 : decode cX6_clear 63 = .ok (.getfield 30, 3) := by decide +kernel
theorem dX6_clear_66 : decode cX6_clear 66 = .ok (.iload_n 1, 1) := by decide +kernel
theorem dX6_clear_67 : decode cX6_clear 67 = .ok (.iconst 0, 1) := by decide +kernel
theorem dX6_clear_68 : decode cX6_clear 68 = .ok (.iastore, 1) := by decide +kernel
theorem dX6_clear_69 : decode cX6_clear 69 = .ok (.iinc 1 1, 3) := by decide +kernel
theorem dX6_clear_72 : decode cX6_clear 72 = .ok (.goto (-60), 3) := by decide +kernel
theorem dX6_clear_75 : decode cX6_clear 75 = .ok (.return_, 1) := by decide +kernel
set_option maxHeartbeats 4000000 in
set_option maxRecDepth 100000 in
theorem m_X6_clear (l : Launch) (mem : Mem) : Ret shp l yX6_clear cX6_clear 2 none 0 [pR 32] mem (fun rv mv => rv = none ∧ mv = clrM mem 32 8) := by
  refine ret_of (by decide +kernel) (Nat.le_of_ble_eq_true rfl) (fun X hX F G => ?_)
  show Ok shp X 2 0 [(0, pR 32)] [] mem
  refine ok_aload_n F dX6_clear_0 0 rfl ?_
  refine ok_iconst F dX6_clear_1 ?_
  refine ok_putf F dX6_clear_2 kF_X6_42 sh_32 rfl rfl rfl (fun m_1 e_2 => ?_)
  refine ok_aload_n F dX6_clear_5 0 rfl ?_
  refine ok_iconst F dX6_clear_6 ?_
  refine ok_putf F dX6_clear_7 kF_X6_46 sh_32 rfl rfl rfl (fun m_3 e_4 => ?_)
  refine ok_iconst F dX6_clear_10 ?_
  refine ok_istore_n (lv' := [(1, pI 0), (0, pR 32)]) F dX6_clear_11 (by decide) rfl ?_
  have hL_12 : ∀ (n_12 : Nat) (k : Int) (m : Mem), (0 ≤ k ∧ k ≤ 8 ∧ m = clrM mem 32 k.toNat) → (8 - k).toNat = n_12 → Ok shp X 2 12 [(0, pR 32), (1, pI k)] [] m := by
    intro n_12
    induction n_12 using Nat.strongRecOn with
    | _ n_12 ih_12 =>
      intro k m hI_12 hn_12
      refine ok_iload_n F dX6_clear_12 1 rfl ?_
      refine ok_bipush F dX6_clear_13 rfl ?_
      refine ok_icmp_ge F 75 dX6_clear_15 (by decide) (by omega) (by omega) (fun c_5 => ?_) (fun c_5 => ?_)
      · refine ok_vret F G dX6_clear_75 ?_
        exact ⟨rfl, by rw [hI_12.2.2, show k = 8 by omega]; rfl⟩
      · refine ok_aload_n F dX6_clear_18 0 rfl ?_
        refine ok_getr F dX6_clear_19 kF_X6_9 sh_32 rfl ?_
        refine ok_iload_n F dX6_clear_22 1 rfl ?_
        refine ok_iconst F dX6_clear_23 ?_
        refine ok_iast F dX6_clear_24 sh_33 (by first | decide | assumption) (by omega) (by omega) (fun m_6 e_7 => ?_)
        refine ok_aload_n F dX6_clear_25 0 rfl ?_
        refine ok_getr F dX6_clear_26 kF_X6_15 sh_32 rfl ?_
        refine ok_iload_n F dX6_clear_29 1 rfl ?_
        refine ok_iconst F dX6_clear_30 ?_
        refine ok_iast F dX6_clear_31 sh_34 (by first | decide | assumption) (by omega) (by omega) (fun m_8 e_9 => ?_)
        refine ok_aload_n F dX6_clear_32 0 rfl ?_
        refine ok_getr F dX6_clear_33 kF_X6_18 sh_32 rfl ?_
        refine ok_iload_n F dX6_clear_36 1 rfl ?_
        refine ok_iconst F dX6_clear_37 ?_
        refine ok_iast F dX6_clear_38 sh_35 (by first | decide | assumption) (by omega) (by omega) (fun m_10 e_11 => ?_)
        refine ok_aload_n F dX6_clear_39 0 rfl ?_
        refine ok_getr F dX6_clear_40 kF_X6_21 sh_32 rfl ?_
        refine ok_iload_n F dX6_clear_43 1 rfl ?_
        refine ok_bipush F dX6_clear_44 rfl ?_
        refine ok_iast F dX6_clear_46 sh_36 (by first | decide | assumption) (by omega) (by omega) (fun m_12 e_13 => ?_)
        refine ok_aload_n F dX6_clear_47 0 rfl ?_
        refine ok_getr F dX6_clear_48 kF_X6_24 sh_32 rfl ?_
        refine ok_iload_n F dX6_clear_51 1 rfl ?_
        refine ok_bipush F dX6_clear_52 rfl ?_
        refine ok_iast F dX6_clear_54 sh_37 (by first | decide | assumption) (by omega) (by omega) (fun m_14 e_15 => ?_)
        refine ok_aload_n F dX6_clear_55 0 rfl ?_
        refine ok_getr F dX6_clear_56 kF_X6_27 sh_32 rfl ?_
        refine ok_iload_n F dX6_clear_59 1 rfl ?_
        refine ok_iconst F dX6_clear_60 ?_
        refine ok_iast F dX6_clear_61 sh_38 (by first | decide | assumption) (by omega) (by omega) (fun m_16 e_17 => ?_)
        refine ok_aload_n F dX6_clear_62 0 rfl ?_
        refine ok_getr F dX6_clear_63 kF_X6_30 sh_32 rfl ?_
        refine ok_iload_n F dX6_clear_66 1 rfl ?_
        refine ok_iconst F dX6_clear_67 ?_
        refine ok_iast F dX6_clear_68 sh_39 (by first | decide | assumption) (by omega) (by omega) (fun m_18 e_19 => ?_)
        refine ok_iinc (lv' := [(1, pI (k + 1)), (0, pR 32)]) F dX6_clear_69 1 rfl (by decide) rfl ?_
        refine ok_goto F 12 dX6_clear_72 (by decide) ?_
        refine ok_lvp [1, 0] (lv' := [(0, pR 32), (1, pI (k + 1))]) rfl ?_
        refine ih_12 _ ?_ (k + 1) m_18 ?_ rfl
        · omega
        · refine ⟨by omega, by omega, ?_⟩
          rw [e_19, e_17, e_15, e_13, e_11, e_9, e_7, hI_12.2.2, show (k + 1).toNat = k.toNat + 1 by omega]
          exact clrM_s _ _
  refine ok_lvp [1, 0] (lv' := [(0, pR 32), (1, pI 0)]) rfl ?_
  refine hL_12 _ 0 m_3 ?_ rfl
  exact ⟨by omega, by omega, by rw [e_4, e_2]; exact clrM_0 _ _⟩
theorem dX6_copyFrom_0 : decode cX6_copyFrom 0 = .ok (.aload_n 0, 1) := by decide +kernel
theorem dX6_copyFrom_1 : decode cX6_copyFrom 1 = .ok (.aload_n 1, 1) := by decide +kernel
theorem dX6_copyFrom_2 : decode cX6_copyFrom 2 = .ok (.getfield 42, 3) := by decide +kernel
theorem dX6_copyFrom_5 : decode cX6_copyFrom 5 = .ok (.putfield 42, 3) := by decide +kernel
theorem dX6_copyFrom_8 : decode cX6_copyFrom 8 = .ok (.aload_n 0, 1) := by decide +kernel
theorem dX6_copyFrom_9 : decode cX6_copyFrom 9 = .ok (.aload_n 1, 1) := by decide +kernel
theorem dX6_copyFrom_10 : decode cX6_copyFrom 10 = .ok (.getfield 46, 3) := by decide +kernel
theorem dX6_copyFrom_13 : decode cX6_copyFrom 13 = .ok (.putfield 46, 3) := by decide +kernel
theorem dX6_copyFrom_16 : decode cX6_copyFrom 16 = .ok (.aload_n 1, 1) := by decide +kernel
theorem dX6_copyFrom_17 : decode cX6_copyFrom 17 = .ok (.getfield 9, 3) := by decide +kernel
theorem dX6_copyFrom_20 : decode cX6_copyFrom 20 = .ok (.aload_n 0, 1) := by decide +kernel
theorem dX6_copyFrom_21 : decode cX6_copyFrom 21 = .ok (.getfield 9, 3) := by decide +kernel
theorem dX6_copyFrom_24 : decode cX6_copyFrom 24 = .ok (.invokestatic 49, 3) := by decide +kernel
theorem dX6_copyFrom_27 : decode cX6_copyFrom 27 = .ok (.aload_n 1, 1) := by decide +kernel
theorem dX6_copyFrom_28 : decode cX6_copyFrom 28 = .ok (.getfield 15, 3) := by decide +kernel
theorem dX6_copyFrom_31 : decode cX6_copyFrom 31 = .ok (.aload_n 0, 1) := by decide +kernel
theorem dX6_copyFrom_32 : decode cX6_copyFrom 32 = .ok (.getfield 15, 3) := by decide +kernel
theorem dX6_copyFrom_35 : decode cX6_copyFrom 35 = .ok (.invokestatic 49, 3) := by decide +kernel
theorem dX6_copyFrom_38 : decode cX6_copyFrom 38 = .ok (.aload_n 1, 1) := by decide +kernel
theorem dX6_copyFrom_39 : decode cX6_copyFrom 39 = .ok (.getfield 18, 3) := by decide +kernel
theorem dX6_copyFrom_42 : decode cX6_copyFrom 42 = .ok (.aload_n 0, 1) := by decide +kernel
theorem dX6_copyFrom_43 : decode cX6_copyFrom 43 = .ok (.getfield 18, 3) := by decide +kernel
theorem dX6_copyFrom_46 : decode cX6_copyFrom 46 = .ok (.invokestatic 49, 3) := by decide +kernel
theorem dX6_copyFrom_49 : decode cX6_copyFrom 49 = .ok (.aload_n 1, 1) := by decide +kernel
theorem dX6_copyFrom_50 : decode cX6_copyFrom 50 = .ok (.getfield 21, 3) := by decide +kernel
theorem dX6_copyFrom_53 : decode cX6_copyFrom 53 = .ok (.aload_n 0, 1) := by decide +kernel
theorem dX6_copyFrom_54 : decode cX6_copyFrom 54 = .ok (.getfield 21, 3) := by decide +kernel
theorem dX6_copyFrom_57 : decode cX6_copyFrom 57 = .ok (.invokestatic 49, 3) := by decide +kernel
theorem dX6_copyFrom_60 : decode cX6_copyFrom 60 = .ok (.aload_n 1, 1) := by decide +kernel
theorem dX6_copyFrom_61 : decode cX6_copyFrom 61 = .ok (.getfield 24, 3) := by decide +kernel
theorem dX6_copyFrom_64 : decode cX6_copyFrom 64 = .ok (.aload_n 0, 1) := by decide +kernel
theorem dX6_copyFrom_65 : decode cX6_copyFrom 65 = .ok (.getfield 24, 3) := by decide +kernel
theorem dX6_copyFrom_68 : decode cX6_copyFrom 68 = .ok (.invokestatic 49, 3) := by decide +kernel
theorem dX6_copyFrom_71 : decode cX6_copyFrom 71 = .ok (.aload_n 1, 1) := by decide +kernel
theorem dX6_copyFrom_72 : decode cX6_copyFrom 72 = .ok (.getfield 27, 3) := by decide +kernel
theorem dX6_copyFrom_75 : decode cX6_copyFrom 75 = .ok (.aload_n 0, 1) := by decide +kernel
theorem dX6_copyFrom_76 : decode cX6_copyFrom 76 = .ok (.getfield 27, 3) := by decide +kernel
theorem dX6_copyFrom_79 : decode cX6_copyFrom 79 = .ok (.invokestatic 49, 3) := by decide +kernel
theorem dX6_copyFrom_82 : decode cX6_copyFrom 82 = .ok (.aload_n 1, 1) := by decide +kernel
theorem dX6_copyFrom_83 : decode cX6_copyFrom 83 = .ok (.getfield 30, 3) := by decide +kernel
theorem dX6_copyFrom_86 : decode cX6_copyFrom 86 = .ok (.aload_n 0, 1) := by decide +kernel
theorem dX6_copyFrom_87 : decode cX6_copyFrom 87 = .ok (.getfield 30, 3) := by decide +kernel
theorem dX6_copyFrom_90 : decode cX6_copyFrom 90 = .ok (.invokestatic 49, 3) := by decide +kernel
theorem dX6_copyFrom_93 : decode cX6_copyFrom 93 = .ok (.aload_n 1, 1) := by decide +kernel
theorem dX6_copyFrom_94 : decode cX6_copyFrom 94 = .ok (.getfield 33, 3) := by decide +kernel
theorem dX6_copyFrom_97 : decode cX6_copyFrom 97 = .ok (.aload_n 0, 1) := by decide +kernel
theorem dX6_copyFrom_98 : decode cX6_copyFrom 98 = .ok (.getfield 33, 3) := by decide +kernel
theorem dX6_copyFrom_101 : decode cX6_copyFrom 101 = .ok (.invokestatic 49, 3) := by decide +kernel
theorem dX6_copyFrom_104 : decode cX6_copyFrom 104 = .ok (.aload_n 1, 1) := by decide +kernel
theorem dX6_copyFrom_105 : decode cX6_copyFrom 105 = .ok (.getfield 36, 3) := by decide +kernel
theorem dX6_copyFrom_108 : decode cX6_copyFrom 108 = .ok (.aload_n 0, 1) := by decide +kernel
theorem dX6_copyFrom_109 : decode cX6_copyFrom 109 = .ok (.getfield 36, 3) := by decide +kernel
theorem dX6_copyFrom_112 : decode cX6_copyFrom 112 = .ok (.invokestatic 49, 3) := by decide +kernel
theorem dX6_copyFrom_115 : decode cX6_copyFrom 115 = .ok (.aload_n 1, 1) := by decide +kernel
theorem dX6_copyFrom_116 : decode cX6_copyFrom 116 = .ok (.getfield 39, 3) := by decide +kernel
theorem dX6_copyFrom_119 : decode cX6_copyFrom 119 = .ok (.aload_n 0, 1) := by decide +kernel
theorem dX6_copyFrom_120 : decode cX6_copyFrom 120 = .ok (.getfield 39, 3) := by decide +kernel
theorem dX6_copyFrom_123 : decode cX6_copyFrom 123 = .ok (.invokestatic 49, 3) := by decide +kernel
theorem dX6_copyFrom_126 : decode cX6_copyFrom 126 = .ok (.return_, 1) := by decide +kernel
set_option maxHeartbeats 4000000 in
set_option maxRecDepth 100000 in
theorem m_X6_copyFrom (l : Launch) (x : Nat) (y : Nat) (mem : Mem) (hx : x < 14) (hy : y < 14) (hxy : x ≠ y) : Ret shp l yX6_copyFrom cX6_copyFrom 2 none 2 [pR (stB x), pR (stB y)] mem (fun rv mv => rv = none ∧ mv = cpyS mem (stB x) (stB y) 11) := by
  refine ret_of (by decide +kernel) (Nat.le_of_ble_eq_true rfl) (fun X hX F G => ?_)
  show Ok shp X 2 0 [(0, pR (stB x)), (1, pR (stB y))] [] mem
  refine ok_aload_n F dX6_copyFrom_0 0 rfl ?_
  refine ok_aload_n F dX6_copyFrom_1 1 rfl ?_
  refine ok_getf (v := mem (stB y) 0) F dX6_copyFrom_2 kF_X6_42 (stSh hy) rfl rfl ?_
  refine ok_putf F dX6_copyFrom_5 kF_X6_42 (stSh hx) rfl rfl rfl (fun m_1 e_2 => ?_)
  refine ok_aload_n F dX6_copyFrom_8 0 rfl ?_
  refine ok_aload_n F dX6_copyFrom_9 1 rfl ?_
  refine ok_getf (v := m_1 (stB y) 1) F dX6_copyFrom_10 kF_X6_46 (stSh hy) rfl rfl ?_
  refine ok_putf F dX6_copyFrom_13 kF_X6_46 (stSh hx) rfl rfl rfl (fun m_3 e_4 => ?_)
  refine ok_aload_n F dX6_copyFrom_16 1 rfl ?_
  refine ok_getr F dX6_copyFrom_17 kF_X6_9 (stSh hy) rfl ?_
  refine ok_aload_n F dX6_copyFrom_20 0 rfl ?_
  refine ok_getr F dX6_copyFrom_21 kF_X6_9 (stSh hx) rfl ?_
  refine ok_calln F [pR (stB y + 1), pR (stB x + 1)] dX6_copyFrom_24 kM_X7_copyRow kS_X7_copyRow (List.mem_of_getElem? (i := 2) rfl) rfl (by decide) (Nat.le_of_ble_eq_true rfl) rfl (m_X7_copyRow _ (stB y + 1) (stB x + 1) m_3 (wid 1) (stShA hy (by decide) (by decide)) (stShA hx (by decide) (by decide)) (by decide)) ?_
  rintro _ m_5 ⟨rfl, e_6⟩
  refine ok_aload_n F dX6_copyFrom_27 1 rfl ?_
  refine ok_getr F dX6_copyFrom_28 kF_X6_15 (stSh hy) rfl ?_
  refine ok_aload_n F dX6_copyFrom_31 0 rfl ?_
  refine ok_getr F dX6_copyFrom_32 kF_X6_15 (stSh hx) rfl ?_
  refine ok_calln F [pR (stB y + 2), pR (stB x + 2)] dX6_copyFrom_35 kM_X7_copyRow kS_X7_copyRow (List.mem_of_getElem? (i := 2) rfl) rfl (by decide) (Nat.le_of_ble_eq_true rfl) rfl (m_X7_copyRow _ (stB y + 2) (stB x + 2) m_5 (wid 2) (stShA hy (by decide) (by decide)) (stShA hx (by decide) (by decide)) (by decide)) ?_
  rintro _ m_7 ⟨rfl, e_8⟩
  refine ok_aload_n F dX6_copyFrom_38 1 rfl ?_
  refine ok_getr F dX6_copyFrom_39 kF_X6_18 (stSh hy) rfl ?_
  refine ok_aload_n F dX6_copyFrom_42 0 rfl ?_
  refine ok_getr F dX6_copyFrom_43 kF_X6_18 (stSh hx) rfl ?_
  refine ok_calln F [pR (stB y + 3), pR (stB x + 3)] dX6_copyFrom_46 kM_X7_copyRow kS_X7_copyRow (List.mem_of_getElem? (i := 2) rfl) rfl (by decide) (Nat.le_of_ble_eq_true rfl) rfl (m_X7_copyRow _ (stB y + 3) (stB x + 3) m_7 (wid 3) (stShA hy (by decide) (by decide)) (stShA hx (by decide) (by decide)) (by decide)) ?_
  rintro _ m_9 ⟨rfl, e_10⟩
  refine ok_aload_n F dX6_copyFrom_49 1 rfl ?_
  refine ok_getr F dX6_copyFrom_50 kF_X6_21 (stSh hy) rfl ?_
  refine ok_aload_n F dX6_copyFrom_53 0 rfl ?_
  refine ok_getr F dX6_copyFrom_54 kF_X6_21 (stSh hx) rfl ?_
  refine ok_calln F [pR (stB y + 4), pR (stB x + 4)] dX6_copyFrom_57 kM_X7_copyRow kS_X7_copyRow (List.mem_of_getElem? (i := 2) rfl) rfl (by decide) (Nat.le_of_ble_eq_true rfl) rfl (m_X7_copyRow _ (stB y + 4) (stB x + 4) m_9 (wid 4) (stShA hy (by decide) (by decide)) (stShA hx (by decide) (by decide)) (by decide)) ?_
  rintro _ m_11 ⟨rfl, e_12⟩
  refine ok_aload_n F dX6_copyFrom_60 1 rfl ?_
  refine ok_getr F dX6_copyFrom_61 kF_X6_24 (stSh hy) rfl ?_
  refine ok_aload_n F dX6_copyFrom_64 0 rfl ?_
  refine ok_getr F dX6_copyFrom_65 kF_X6_24 (stSh hx) rfl ?_
  refine ok_calln F [pR (stB y + 5), pR (stB x + 5)] dX6_copyFrom_68 kM_X7_copyRow kS_X7_copyRow (List.mem_of_getElem? (i := 2) rfl) rfl (by decide) (Nat.le_of_ble_eq_true rfl) rfl (m_X7_copyRow _ (stB y + 5) (stB x + 5) m_11 (wid 5) (stShA hy (by decide) (by decide)) (stShA hx (by decide) (by decide)) (by decide)) ?_
  rintro _ m_13 ⟨rfl, e_14⟩
  refine ok_aload_n F dX6_copyFrom_71 1 rfl ?_
  refine ok_getr F dX6_copyFrom_72 kF_X6_27 (stSh hy) rfl ?_
  refine ok_aload_n F dX6_copyFrom_75 0 rfl ?_
  refine ok_getr F dX6_copyFrom_76 kF_X6_27 (stSh hx) rfl ?_
  refine ok_calln F [pR (stB y + 6), pR (stB x + 6)] dX6_copyFrom_79 kM_X7_copyRow kS_X7_copyRow (List.mem_of_getElem? (i := 2) rfl) rfl (by decide) (Nat.le_of_ble_eq_true rfl) rfl (m_X7_copyRow _ (stB y + 6) (stB x + 6) m_13 (wid 6) (stShA hy (by decide) (by decide)) (stShA hx (by decide) (by decide)) (by decide)) ?_
  rintro _ m_15 ⟨rfl, e_16⟩
  refine ok_aload_n F dX6_copyFrom_82 1 rfl ?_
  refine ok_getr F dX6_copyFrom_83 kF_X6_30 (stSh hy) rfl ?_
  refine ok_aload_n F dX6_copyFrom_86 0 rfl ?_
  refine ok_getr F dX6_copyFrom_87 kF_X6_30 (stSh hx) rfl ?_
  refine ok_calln F [pR (stB y + 7), pR (stB x + 7)] dX6_copyFrom_90 kM_X7_copyRow kS_X7_copyRow (List.mem_of_getElem? (i := 2) rfl) rfl (by decide) (Nat.le_of_ble_eq_true rfl) rfl (m_X7_copyRow _ (stB y + 7) (stB x + 7) m_15 (wid 7) (stShA hy (by decide) (by decide)) (stShA hx (by decide) (by decide)) (by decide)) ?_
  rintro _ m_17 ⟨rfl, e_18⟩
  refine ok_aload_n F dX6_copyFrom_93 1 rfl ?_
  refine ok_getr F dX6_copyFrom_94 kF_X6_33 (stSh hy) rfl ?_
  refine ok_aload_n F dX6_copyFrom_97 0 rfl ?_
  refine ok_getr F dX6_copyFrom_98 kF_X6_33 (stSh hx) rfl ?_
  refine ok_calln F [pR (stB y + 8), pR (stB x + 8)] dX6_copyFrom_101 kM_X7_copyRow kS_X7_copyRow (List.mem_of_getElem? (i := 2) rfl) rfl (by decide) (Nat.le_of_ble_eq_true rfl) rfl (m_X7_copyRow _ (stB y + 8) (stB x + 8) m_17 (wid 8) (stShA hy (by decide) (by decide)) (stShA hx (by decide) (by decide)) (by decide)) ?_
  rintro _ m_19 ⟨rfl, e_20⟩
  refine ok_aload_n F dX6_copyFrom_104 1 rfl ?_
  refine ok_getr F dX6_copyFrom_105 kF_X6_36 (stSh hy) rfl ?_
  refine ok_aload_n F dX6_copyFrom_108 0 rfl ?_
  refine ok_getr F dX6_copyFrom_109 kF_X6_36 (stSh hx) rfl ?_
  refine ok_calln F [pR (stB y + 9), pR (stB x + 9)] dX6_copyFrom_112 kM_X7_copyRow kS_X7_copyRow (List.mem_of_getElem? (i := 2) rfl) rfl (by decide) (Nat.le_of_ble_eq_true rfl) rfl (m_X7_copyRow _ (stB y + 9) (stB x + 9) m_19 (wid 9) (stShA hy (by decide) (by decide)) (stShA hx (by decide) (by decide)) (by decide)) ?_
  rintro _ m_21 ⟨rfl, e_22⟩
  refine ok_aload_n F dX6_copyFrom_115 1 rfl ?_
  refine ok_getr F dX6_copyFrom_116 kF_X6_39 (stSh hy) rfl ?_
  refine ok_aload_n F dX6_copyFrom_119 0 rfl ?_
  refine ok_getr F dX6_copyFrom_120 kF_X6_39 (stSh hx) rfl ?_
  refine ok_calln F [pR (stB y + 10), pR (stB x + 10)] dX6_copyFrom_123 kM_X7_copyRow kS_X7_copyRow (List.mem_of_getElem? (i := 2) rfl) rfl (by decide) (Nat.le_of_ble_eq_true rfl) rfl (m_X7_copyRow _ (stB y + 10) (stB x + 10) m_21 (wid 10) (stShA hy (by decide) (by decide)) (stShA hx (by decide) (by decide)) (by decide)) ?_
  rintro _ m_23 ⟨rfl, e_24⟩
  refine ok_vret F G dX6_copyFrom_126 ?_
  have hd : stB x + 11 ≤ stB y ∨ stB y + 11 ≤ stB x := by unfold stB; omega
  refine ⟨rfl, ?_⟩
  subst_vars
  rw [cpyS_2 hd]
  rw [cpyS_s (n := 1) (by decide) rfl hd]
  rw [cpyS_s (n := 2) (by decide) rfl hd]
  rw [cpyS_s (n := 3) (by decide) rfl hd]
  rw [cpyS_s (n := 4) (by decide) rfl hd]
  rw [cpyS_s (n := 5) (by decide) rfl hd]
  rw [cpyS_s (n := 6) (by decide) rfl hd]
  rw [cpyS_s (n := 7) (by decide) rfl hd]
  rw [cpyS_s (n := 8) (by decide) rfl hd]
  rw [cpyS_s (n := 9) (by decide) rfl hd]
  rw [cpyS_s (n := 10) (by decide) rfl hd]
