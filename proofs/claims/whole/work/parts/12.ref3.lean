/-! the reference: undone, kept; acts that reckon nothing; what there is -/
/-- the cell of kept shelves -/
def keepM (mem : Mem) (k : Int) : Mem := mset (cpyN mem 1 0 4 (459 * k).toNat 459) 5 k.toNat 1
def undoM (mem : Mem) : Mem := cpyN (mset mem 0 5 (mem 0 5 - 1)) 3 (459 * (mem 0 5 - 1)).toNat 1 0 459
def backM (mem : Mem) (k : Int) : Mem := mset (cpyN mem 4 (459 * k).toNat 1 0 459) 0 5 0
/-- what there is of a stretch of a cell behind a copy -/
theorem cpyN_at {mem : Mem} {c p t q n b : Nat} (h : b < n) : cpyN mem c p t q n t (q + b) = mem c (p + b) := by
  unfold cpyN
  rw [if_pos (by omega), show q + b - q = b by omega]
theorem cpyN_ne {mem : Mem} {c p t q n a b : Nat} (h : a ≠ t) : cpyN mem c p t q n a b = mem a b := if_neg fun z => h z.1
/-- a sale's day, its price, what is given of a kind -/
def sDay (f : Nat → Int) (s : Nat) : Int := f (59 + 10 * s)
def sPrice (f : Nat → Int) (s : Nat) : Int := f (60 + 10 * s)
def sGiven (f : Nat → Int) (s k : Nat) : Int := f (61 + 10 * s + k)
/-- where the k-th of the first n sales that are a day's lies; none -/
def saleAt (f : Nat → Int) (d : Int) (k : Int) : Nat → Nat → Int → Int
  | 0, _, _ => -1
  | n + 1, s, i => if sDay f s = d then (if i = k then (s : Int) else saleAt f d k n (s + 1) (i + 1)) else saleAt f d k n (s + 1) i
/-- the least of the first n kinds of which a row has none -/
def noneAt (g : Nat → Int) : Nat → Nat → Int
  | 0, _ => -2
  | n + 1, k => if g k = 0 then (k : Int) else noneAt g n (k + 1)
def kindAt (g : Nat → Int) (v : Int) : Nat → Nat → Int
  | 0, _ => -1
  | n + 1, k => if g k = v then (k : Int) else kindAt g v n (k + 1)
theorem dX8_undo_0 : decode cX8_undo 0 = .ok (.aload_n 0, 1) := by decide +kernel
theorem dX8_undo_1 : decode cX8_undo 1 = .ok (.getfield 188, 3) := by decide +kernel
theorem dX8_undo_4 : decode cX8_undo 4 = .ok (.ifCond .ne 5, 3) := by decide +kernel
theorem dX8_undo_7 : decode cX8_undo 7 = .ok (.iconst (-1), 1) := by decide +kernel
theorem dX8_undo_8 : decode cX8_undo 8 = .ok (.ireturn, 1) := by decide +kernel
theorem dX8_undo_9 : decode cX8_undo 9 = .ok (.aload_n 0, 1) := by decide +kernel
theorem dX8_undo_10 : decode cX8_undo 10 = .ok (.dup, 1) := by decide +kernel
theorem dX8_undo_11 : decode cX8_undo 11 = .ok (.getfield 188, 3) := by decide +kernel
theorem dX8_undo_14 : decode cX8_undo 14 = .ok (.iconst 1, 1) := by decide +kernel
theorem dX8_undo_15 : decode cX8_undo 15 = .ok (.isub, 1) := by decide +kernel
theorem dX8_undo_16 : decode cX8_undo 16 = .ok (.putfield 188, 3) := by decide +kernel
theorem dX8_undo_19 : decode cX8_undo 19 = .ok (.aload_n 0, 1) := by decide +kernel
theorem dX8_undo_20 : decode cX8_undo 20 = .ok (.getfield 16, 3) := by decide +kernel
theorem dX8_undo_23 : decode cX8_undo 23 = .ok (.sipush 459, 3) := by decide +kernel
theorem dX8_undo_26 : decode cX8_undo 26 = .ok (.aload_n 0, 1) := by decide +kernel
theorem dX8_undo_27 : decode cX8_undo 27 = .ok (.getfield 188, 3) := by decide +kernel
theorem dX8_undo_30 : decode cX8_undo 30 = .ok (.imul, 1) := by decide +kernel
theorem dX8_undo_31 : decode cX8_undo 31 = .ok (.aload_n 0, 1) := by decide +kernel
theorem dX8_undo_32 : decode cX8_undo 32 = .ok (.getfield 9, 3) := by decide +kernel
theorem dX8_undo_35 : decode cX8_undo 35 = .ok (.iconst 0, 1) := by decide +kernel
theorem dX8_undo_36 : decode cX8_undo 36 = .ok (.invokestatic 184, 3) := by decide +kernel
theorem dX8_undo_39 : decode cX8_undo 39 = .ok (.aload_n 0, 1) := by decide +kernel
theorem dX8_undo_40 : decode cX8_undo 40 = .ok (.getfield 188, 3) := by decide +kernel
theorem dX8_undo_43 : decode cX8_undo 43 = .ok (.ireturn, 1) := by decide +kernel
set_option maxHeartbeats 4000000 in
set_option maxRecDepth 100000 in
theorem m_X8_undo (l : Launch) (mem : Mem) (hP : 0 ≤ mem 0 5 ∧ mem 0 5 ≤ 10) : Ret shp l yX8_undo cX8_undo 1 (some .int) 1 [pR 0] mem (fun rv mv => rv = some (pI (if mem 0 5 = 0 then -1 else mem 0 5 - 1)) ∧ mv = if mem 0 5 = 0 then mem else undoM mem) := by
  refine ret_of (by decide +kernel) (Nat.le_of_ble_eq_true rfl) (fun X hX F G => ?_)
  show Ok shp X 1 0 [(0, pR 0)] [] mem
  refine ok_aload_n F dX8_undo_0 0 rfl ?_
  refine ok_getf (v := mem 0 5) F dX8_undo_1 kF_X8_188 sh_0 rfl rfl ?_
  refine ok_if_ne F 9 dX8_undo_4 (by decide) (by omega) (fun c_1 => ?_) (fun c_1 => ?_)
  · refine ok_aload_n F dX8_undo_9 0 rfl ?_
    refine ok_dup F dX8_undo_10 rfl ?_
    refine ok_getf (v := mem 0 5) F dX8_undo_11 kF_X8_188 sh_0 rfl rfl ?_
    refine ok_iconst F dX8_undo_14 ?_
    refine ok_isub F dX8_undo_15 ?_
    refine ok_putf F dX8_undo_16 kF_X8_188 sh_0 rfl rfl rfl (fun m_2 e_3 => ?_)
    refine ok_aload_n F dX8_undo_19 0 rfl ?_
    refine ok_getr F dX8_undo_20 kF_X8_16 sh_0 rfl ?_
    refine ok_sipush F dX8_undo_23 rfl ?_
    refine ok_aload_n F dX8_undo_26 0 rfl ?_
    refine ok_getf (v := ((mem 0 5) - 1)) F dX8_undo_27 kF_X8_188 sh_0 rfl (by rw [e_3]; exact mset_eq _ _ _ _) ?_
    refine ok_imul F dX8_undo_30 ?_
    refine ok_aload_n F dX8_undo_31 0 rfl ?_
    refine ok_getr F dX8_undo_32 kF_X8_9 sh_0 rfl ?_
    refine ok_iconst F dX8_undo_35 ?_
    refine ok_calls F [pR 3, pI (459 * ((mem 0 5) - 1)), pR 1, pI 0] dX8_undo_36 kM_X8_moves kS_X8_moves kL_X8_184 rfl (by decide) (Nat.le_of_ble_eq_true rfl) rfl (m_X8_moves _ 3 (459 * ((mem 0 5) - 1)) 1 0 m_2 (4590) (459) (sh_3) (sh_1) (by decide) (by decide) (by decide) (by omega) (by omega)) ?_
    rintro _ m_4 ⟨rfl, e_5⟩
    refine ok_aload_n F dX8_undo_39 0 rfl ?_
    refine ok_getf (v := m_4 0 5) F dX8_undo_40 kF_X8_188 sh_0 rfl rfl ?_
    refine ok_iret F G dX8_undo_43 ?_
    subst_vars
    exact ⟨by rw [if_neg (by omega), cpyN_ne (by decide), mset_eq], by rw [if_neg (by omega)]; rfl⟩
  · refine ok_iconst F dX8_undo_7 ?_
    refine ok_iret F G dX8_undo_8 ?_
    exact ⟨by rw [if_pos (by omega)], by rw [if_pos (by omega)]⟩
theorem dX8_keep_0 : decode cX8_keep 0 = .ok (.iload_n 1, 1) := by decide +kernel
theorem dX8_keep_1 : decode cX8_keep 1 = .ok (.i2l, 1) := by decide +kernel
theorem dX8_keep_2 : decode cX8_keep 2 = .ok (.lconst 0, 1) := by decide +kernel
theorem dX8_keep_3 : decode cX8_keep 3 = .ok (.lconst 1, 1) := by decide +kernel
theorem dX8_keep_4 : decode cX8_keep 4 = .ok (.invokestatic 100, 3) := by decide +kernel
theorem dX8_keep_7 : decode cX8_keep 7 = .ok (.ifCond .ne 5, 3) := by decide +kernel
theorem dX8_keep_10 : decode cX8_keep 10 = .ok (.iconst (-1), 1) := by decide +kernel
theorem dX8_keep_11 : decode cX8_keep 11 = .ok (.ireturn, 1) := by decide +kernel
theorem dX8_keep_12 : decode cX8_keep 12 = .ok (.aload_n 0, 1) := by decide +kernel
theorem dX8_keep_13 : decode cX8_keep 13 = .ok (.getfield 9, 3) := by decide +kernel
theorem dX8_keep_16 : decode cX8_keep 16 = .ok (.iconst 0, 1) := by decide +kernel
theorem dX8_keep_17 : decode cX8_keep 17 = .ok (.aload_n 0, 1) := by decide +kernel
theorem dX8_keep_18 : decode cX8_keep 18 = .ok (.getfield 19, 3) := by decide +kernel
theorem dX8_keep_21 : decode cX8_keep 21 = .ok (.sipush 459, 3) := by decide +kernel
theorem dX8_keep_24 : decode cX8_keep 24 = .ok (.iload_n 1, 1) := by decide +kernel
theorem dX8_keep_25 : decode cX8_keep 25 = .ok (.imul, 1) := by decide +kernel
theorem dX8_keep_26 : decode cX8_keep 26 = .ok (.invokestatic 184, 3) := by decide +kernel
theorem dX8_keep_29 : decode cX8_keep 29 = .ok (.aload_n 0, 1) := by decide +kernel
theorem dX8_keep_30 : decode cX8_keep 30 = .ok (.getfield 22, 3) := by decide +kernel
theorem dX8_keep_33 : decode cX8_keep 33 = .ok (.iload_n 1, 1) := by decide +kernel
theorem dX8_keep_34 : decode cX8_keep 34 = .ok (.iconst 1, 1) := by decide +kernel
theorem dX8_keep_35 : decode cX8_keep 35 = .ok (.bastore, 1) := by decide +kernel
theorem dX8_keep_36 : decode cX8_keep 36 = .ok (.aload_n 0, 1) := by decide +kernel
theorem dX8_keep_37 : decode cX8_keep 37 = .ok (.getfield 9, 3) := by decide +kernel
theorem dX8_keep_40 : decode cX8_keep 40 = .ok (.iconst 0, 1) := by decide +kernel
theorem dX8_keep_41 : decode cX8_keep 41 = .ok (.iaload, 1) := by decide +kernel
theorem dX8_keep_42 : decode cX8_keep 42 = .ok (.ireturn, 1) := by decide +kernel
set_option maxHeartbeats 4000000 in
set_option maxRecDepth 100000 in
theorem m_X8_keep (l : Launch) (k : Int) (mem : Mem) (hk : i32 k) : Ret shp l yX8_keep cX8_keep 2 (some .int) 1 [pR 0, pI k] mem (fun rv mv => rv = some (pI (if 0 ≤ k ∧ k ≤ 1 then mem 1 0 else -1)) ∧ mv = if 0 ≤ k ∧ k ≤ 1 then keepM mem k else mem) := by
  refine ret_of (by decide +kernel) (Nat.le_of_ble_eq_true rfl) (fun X hX F G => ?_)
  show Ok shp X 2 0 [(0, pR 0), (1, pI k)] [] mem
  refine ok_iload_n F dX8_keep_0 1 rfl ?_
  refine ok_i2l F dX8_keep_1 (by omega) ?_
  refine ok_lconst (z := 0) F dX8_keep_2 rfl ?_
  refine ok_lconst (z := 1) F dX8_keep_3 rfl ?_
  refine ok_calls F [pL k, pL 0, pL 1] dX8_keep_4 kM_X8_in kS_X8_in kL_X8_100 rfl (by decide) (Nat.le_of_ble_eq_true rfl) rfl (m_X8_in _ k 0 1 mem (by omega) (by omega) (by omega)) ?_
  rintro _ _ ⟨rfl, rfl⟩
  refine ok_if_ne F 12 dX8_keep_7 (by decide) (by omega) (fun c_1 => ?_) (fun c_1 => ?_)
  · refine ok_aload_n F dX8_keep_12 0 rfl ?_
    refine ok_getr F dX8_keep_13 kF_X8_9 sh_0 rfl ?_
    refine ok_iconst F dX8_keep_16 ?_
    refine ok_aload_n F dX8_keep_17 0 rfl ?_
    refine ok_getr F dX8_keep_18 kF_X8_19 sh_0 rfl ?_
    refine ok_sipush F dX8_keep_21 rfl ?_
    refine ok_iload_n F dX8_keep_24 1 rfl ?_
    refine ok_imul F dX8_keep_25 ?_
    refine ok_calls F [pR 1, pI 0, pR 4, pI (459 * k)] dX8_keep_26 kM_X8_moves kS_X8_moves kL_X8_184 rfl (by decide) (Nat.le_of_ble_eq_true rfl) rfl (m_X8_moves _ 1 0 4 (459 * k) mem (459) (918) (sh_1) (sh_4) (by decide) (by decide) (by decide) (by omega) (by omega)) ?_
    rintro _ m_2 ⟨rfl, e_3⟩
    refine ok_aload_n F dX8_keep_29 0 rfl ?_
    refine ok_getr F dX8_keep_30 kF_X8_22 sh_0 rfl ?_
    refine ok_iload_n F dX8_keep_33 1 rfl ?_
    refine ok_iconst F dX8_keep_34 ?_
    refine ok_zast F dX8_keep_35 sh_5 (by first | decide | assumption) (by omega) (by omega) (rfl) (fun m_4 e_5 => ?_)
    refine ok_aload_n F dX8_keep_36 0 rfl ?_
    refine ok_getr F dX8_keep_37 kF_X8_9 sh_0 rfl ?_
    refine ok_iconst F dX8_keep_40 ?_
    refine ok_iald (v := m_2 1 0) F dX8_keep_41 sh_1 (by first | decide | assumption) (by omega) (by omega) (by rw [e_5, mset_nk (by decide)] <;> rfl) ?_
    refine ok_iret F G dX8_keep_42 ?_
    have hk2 : 0 ≤ k ∧ k ≤ 1 := by omega
    subst_vars
    exact ⟨by rw [if_pos hk2, cpyN_ne (by decide)], by rw [if_pos hk2]; rfl⟩
  · refine ok_iconst F dX8_keep_10 ?_
    refine ok_iret F G dX8_keep_11 ?_
    exact ⟨by rw [if_neg (by omega)], by rw [if_neg (by omega)]⟩
theorem dX8_back_0 : decode cX8_back 0 = .ok (.iload_n 1, 1) := by decide +kernel
theorem dX8_back_1 : decode cX8_back 1 = .ok (.i2l, 1) := by decide +kernel
theorem dX8_back_2 : decode cX8_back 2 = .ok (.lconst 0, 1) := by decide +kernel
theorem dX8_back_3 : decode cX8_back 3 = .ok (.lconst 1, 1) := by decide +kernel
theorem dX8_back_4 : decode cX8_back 4 = .ok (.invokestatic 100, 3) := by decide +kernel
theorem dX8_back_7 : decode cX8_back 7 = .ok (.ifCond .ne 5, 3) := by decide +kernel
theorem dX8_back_10 : decode cX8_back 10 = .ok (.iconst (-1), 1) := by decide +kernel
theorem dX8_back_11 : decode cX8_back 11 = .ok (.ireturn, 1) := by decide +kernel
theorem dX8_back_12 : decode cX8_back 12 = .ok (.aload_n 0, 1) := by decide +kernel
theorem dX8_back_13 : decode cX8_back 13 = .ok (.getfield 22, 3) := by decide +kernel
theorem dX8_back_16 : decode cX8_back 16 = .ok (.iload_n 1, 1) := by decide +kernel
theorem dX8_back_17 : decode cX8_back 17 = .ok (.baload, 1) := by decide +kernel
theorem dX8_back_18 : decode cX8_back 18 = .ok (.ifCond .ne 6, 3) := by decide +kernel
theorem dX8_back_21 : decode cX8_back 21 = .ok (.bipush (-2), 2) := by decide +kernel
theorem dX8_back_23 : decode cX8_back 23 = .ok (.ireturn, 1) := by decide +kernel
theorem dX8_back_24 : decode cX8_back 24 = .ok (.aload_n 0, 1) := by decide +kernel
theorem dX8_back_25 : decode cX8_back 25 = .ok (.getfield 19, 3) := by decide +kernel
theorem dX8_back_28 : decode cX8_back 28 = .ok (.sipush 459, 3) := by decide +kernel
theorem dX8_back_31 : decode cX8_back 31 = .ok (.iload_n 1, 1) := by decide +kernel
theorem dX8_back_32 : decode cX8_back 32 = .ok (.imul, 1) := by decide +kernel
theorem dX8_back_33 : decode cX8_back 33 = .ok (.aload_n 0, 1) := by decide +kernel
theorem dX8_back_34 : decode cX8_back 34 = .ok (.getfield 9, 3) := by decide +kernel
theorem dX8_back_37 : decode cX8_back 37 = .ok (.iconst 0, 1) := by decide +kernel
theorem dX8_back_38 : decode cX8_back 38 = .ok (.invokestatic 184, 3) := by decide +kernel
theorem dX8_back_41 : decode cX8_back 41 = .ok (.aload_n 0, 1) := by decide +kernel
theorem dX8_back_42 : decode cX8_back 42 = .ok (.iconst 0, 1) := by decide +kernel
theorem dX8_back_43 : decode cX8_back 43 = .ok (.putfield 188, 3) := by decide +kernel
theorem dX8_back_46 : decode cX8_back 46 = .ok (.aload_n 0, 1) := by decide +kernel
theorem dX8_back_47 : decode cX8_back 47 = .ok (.getfield 9, 3) := by decide +kernel
theorem dX8_back_50 : decode cX8_back 50 = .ok (.iconst 0, 1) := by decide +kernel
theorem dX8_back_51 : decode cX8_back 51 = .ok (.iaload, 1) := by decide +kernel
theorem dX8_back_52 : decode cX8_back 52 = .ok (.ireturn, 1) := by decide +kernel
set_option maxHeartbeats 4000000 in
set_option maxRecDepth 100000 in
theorem m_X8_back (l : Launch) (k : Int) (mem : Mem) (hk : i32 k) (hW : ∀ b, i32 (mem 5 b)) : Ret shp l yX8_back cX8_back 2 (some .int) 1 [pR 0, pI k] mem (fun rv mv => rv = some (pI (if 0 ≤ k ∧ k ≤ 1 then (if mem 5 k.toNat = 0 then -2 else mem 4 (459 * k).toNat) else -1)) ∧ mv = if 0 ≤ k ∧ k ≤ 1 then (if mem 5 k.toNat = 0 then mem else backM mem k) else mem) := by
  refine ret_of (by decide +kernel) (Nat.le_of_ble_eq_true rfl) (fun X hX F G => ?_)
  show Ok shp X 2 0 [(0, pR 0), (1, pI k)] [] mem
  refine ok_iload_n F dX8_back_0 1 rfl ?_
  refine ok_i2l F dX8_back_1 (by first | omega | exact hW _) ?_
  refine ok_lconst (z := 0) F dX8_back_2 rfl ?_
  refine ok_lconst (z := 1) F dX8_back_3 rfl ?_
  refine ok_calls F [pL k, pL 0, pL 1] dX8_back_4 kM_X8_in kS_X8_in kL_X8_100 rfl (by decide) (Nat.le_of_ble_eq_true rfl) rfl (m_X8_in _ k 0 1 mem (by omega) (by omega) (by omega)) ?_
  rintro _ _ ⟨rfl, rfl⟩
  refine ok_if_ne F 12 dX8_back_7 (by decide) (by first | omega | exact hW _) (fun c_1 => ?_) (fun c_1 => ?_)
  · refine ok_aload_n F dX8_back_12 0 rfl ?_
    refine ok_getr F dX8_back_13 kF_X8_22 sh_0 rfl ?_
    refine ok_iload_n F dX8_back_16 1 rfl ?_
    refine ok_zald (v := mem 5 k.toNat) F dX8_back_17 sh_5 (by first | decide | assumption) (by first | omega | exact hW _) (by first | omega | exact hW _) rfl ?_
    refine ok_if_ne F 24 dX8_back_18 (by decide) (by first | omega | exact hW _) (fun c_2 => ?_) (fun c_2 => ?_)
    · refine ok_aload_n F dX8_back_24 0 rfl ?_
      refine ok_getr F dX8_back_25 kF_X8_19 sh_0 rfl ?_
      refine ok_sipush F dX8_back_28 rfl ?_
      refine ok_iload_n F dX8_back_31 1 rfl ?_
      refine ok_imul F dX8_back_32 ?_
      refine ok_aload_n F dX8_back_33 0 rfl ?_
      refine ok_getr F dX8_back_34 kF_X8_9 sh_0 rfl ?_
      refine ok_iconst F dX8_back_37 ?_
      refine ok_calls F [pR 4, pI (459 * k), pR 1, pI 0] dX8_back_38 kM_X8_moves kS_X8_moves kL_X8_184 rfl (by decide) (Nat.le_of_ble_eq_true rfl) rfl (m_X8_moves _ 4 (459 * k) 1 0 mem (918) (459) (sh_4) (sh_1) (by decide) (by decide) (by decide) (by omega) (by omega)) ?_
      rintro _ m_3 ⟨rfl, e_4⟩
      refine ok_aload_n F dX8_back_41 0 rfl ?_
      refine ok_iconst F dX8_back_42 ?_
      refine ok_putf F dX8_back_43 kF_X8_188 sh_0 rfl rfl rfl (fun m_5 e_6 => ?_)
      refine ok_aload_n F dX8_back_46 0 rfl ?_
      refine ok_getr F dX8_back_47 kF_X8_9 sh_0 rfl ?_
      refine ok_iconst F dX8_back_50 ?_
      refine ok_iald (v := m_3 1 0) F dX8_back_51 sh_1 (by first | decide | assumption) (by first | omega | exact hW _) (by first | omega | exact hW _) (by rw [e_6, mset_nk (by decide)] <;> rfl) ?_
      refine ok_iret F G dX8_back_52 ?_
      have hk2 : 0 ≤ k ∧ k ≤ 1 := by omega
      have hk3 : ¬ mem 5 k.toNat = 0 := by omega
      subst_vars
      refine ⟨?_, by rw [if_pos hk2, if_neg hk3]; rfl⟩
      rw [if_pos hk2, if_neg hk3]
      simp [cpyN]
    · refine ok_bipush F dX8_back_21 rfl ?_
      refine ok_iret F G dX8_back_23 ?_
      exact ⟨by rw [if_pos (by omega), if_pos (by omega)], by rw [if_pos (by omega), if_pos (by omega)]⟩
  · refine ok_iconst F dX8_back_10 ?_
    refine ok_iret F G dX8_back_11 ?_
    exact ⟨by rw [if_neg (by omega)], by rw [if_neg (by omega)]⟩
theorem dX8_put_0 : decode cX8_put 0 = .ok (.iload_n 1, 1) := by decide +kernel
theorem dX8_put_1 : decode cX8_put 1 = .ok (.i2l, 1) := by decide +kernel
theorem dX8_put_2 : decode cX8_put 2 = .ok (.lconst 0, 1) := by decide +kernel
theorem dX8_put_3 : decode cX8_put 3 = .ok (.ldc2_w 213, 3) := by decide +kernel
theorem dX8_put_6 : decode cX8_put 6 = .ok (.invokestatic 100, 3) := by decide +kernel
theorem dX8_put_9 : decode cX8_put 9 = .ok (.ifCond .eq 32, 3) := by decide +kernel
theorem dX8_put_12 : decode cX8_put 12 = .ok (.aload_n 0, 1) := by decide +kernel
theorem dX8_put_13 : decode cX8_put 13 = .ok (.iload_n 2, 1) := by decide +kernel
theorem dX8_put_14 : decode cX8_put 14 = .ok (.invokevirtual 215, 3) := by decide +kernel
theorem dX8_put_17 : decode cX8_put 17 = .ok (.ifCond .eq 24, 3) := by decide +kernel
theorem dX8_put_20 : decode cX8_put 20 = .ok (.iload_n 3, 1) := by decide +kernel
theorem dX8_put_21 : decode cX8_put 21 = .ok (.i2l, 1) := by decide +kernel
theorem dX8_put_22 : decode cX8_put 22 = .ok (.iload_n 1, 1) := by decide +kernel
theorem dX8_put_23 : decode cX8_put 23 = .ok (.iconst 3, 1) := by decide +kernel
theorem dX8_put_24 : decode cX8_put 24 = .ok (.if_icmp .ne 7, 3) := by decide +kernel
theorem dX8_put_27 : decode cX8_put 27 = .ok (.lconst 1, 1) := by decide +kernel
theorem dX8_put_28 : decode cX8_put 28 = .ok (.goto 4, 3) := by decide +kernel
theorem dX8_put_31 : decode cX8_put 31 = .ok (.lconst 0, 1) := by decide +kernel
theorem dX8_put_32 : decode cX8_put 32 = .ok (.ldc2_w 219, 3) := by decide +kernel
theorem dX8_put_35 : decode cX8_put 35 = .ok (.invokestatic 100, 3) := by decide +kernel
theorem dX8_put_38 : decode cX8_put 38 = .ok (.ifCond .ne 5, 3) := by decide +kernel
theorem dX8_put_41 : decode cX8_put 41 = .ok (.iconst (-1), 1) := by decide +kernel
theorem dX8_put_42 : decode cX8_put 42 = .ok (.ireturn, 1) := by decide +kernel
theorem dX8_put_43 : decode cX8_put 43 = .ok (.aload_n 0, 1) := by decide +kernel
theorem dX8_put_44 : decode cX8_put 44 = .ok (.iload_n 1, 1) := by decide +kernel
theorem dX8_put_45 : decode cX8_put 45 = .ok (.invokevirtual 221, 3) := by decide +kernel
theorem dX8_put_48 : decode cX8_put 48 = .ok (.iload_n 2, 1) := by decide +kernel
theorem dX8_put_49 : decode cX8_put 49 = .ok (.iadd, 1) := by decide +kernel
theorem dX8_put_50 : decode cX8_put 50 = .ok (.istore 4, 2) := by decide +kernel
theorem dX8_put_52 : decode cX8_put 52 = .ok (.aload_n 0, 1) := by decide +kernel
theorem dX8_put_53 : decode cX8_put 53 = .ok (.getfield 9, 3) := by decide +kernel
theorem dX8_put_56 : decode cX8_put 56 = .ok (.iload 4, 2) := by decide +kernel
theorem dX8_put_58 : decode cX8_put 58 = .ok (.iaload, 1) := by decide +kernel
theorem dX8_put_59 : decode cX8_put 59 = .ok (.istore 5, 2) := by decide +kernel
theorem dX8_put_61 : decode cX8_put 61 = .ok (.iload 5, 2) := by decide +kernel
theorem dX8_put_63 : decode cX8_put 63 = .ok (.iload_n 3, 1) := by decide +kernel
theorem dX8_put_64 : decode cX8_put 64 = .ok (.if_icmp .ne 6, 3) := by decide +kernel
theorem dX8_put_67 : decode cX8_put 67 = .ok (.bipush (-2), 2) := by decide +kernel
theorem dX8_put_69 : decode cX8_put 69 = .ok (.ireturn, 1) := by decide +kernel
theorem dX8_put_70 : decode cX8_put 70 = .ok (.aload_n 0, 1) := by decide +kernel
theorem dX8_put_71 : decode cX8_put 71 = .ok (.invokevirtual 224, 3) := by decide +kernel
theorem dX8_put_74 : decode cX8_put 74 = .ok (.aload_n 0, 1) := by decide +kernel
theorem dX8_put_75 : decode cX8_put 75 = .ok (.getfield 9, 3) := by decide +kernel
theorem dX8_put_78 : decode cX8_put 78 = .ok (.iload 4, 2) := by decide +kernel
theorem dX8_put_80 : decode cX8_put 80 = .ok (.iload_n 3, 1) := by decide +kernel
theorem dX8_put_81 : decode cX8_put 81 = .ok (.iastore, 1) := by decide +kernel
theorem dX8_put_82 : decode cX8_put 82 = .ok (.iload 5, 2) := by decide +kernel
theorem dX8_put_84 : decode cX8_put 84 = .ok (.ireturn, 1) := by decide +kernel
set_option maxHeartbeats 4000000 in
set_option maxRecDepth 100000 in
theorem m_X8_put (l : Launch) (r : Int) (k : Int) (n : Int) (mem : Mem) (hr : i32 r) (hk : i32 k) (hn : i32 n) (hN : 0 ≤ mem 1 0 ∧ mem 1 0 ≤ 8) (hP : 0 ≤ mem 0 5 ∧ mem 0 5 ≤ 10) (hR : ∀ b, i32 (mem 1 b)) : Ret shp l yX8_put cX8_put 6 (some .int) 2 [pR 0, pI r, pI k, pI n] mem (fun rv mv => ∃ z, rv = some (pI z) ∧ (¬ ((0 ≤ r ∧ r ≤ 3) ∧ (0 ≤ k ∧ k < mem 1 0) ∧ (if r = 3 then 1 else 0) ≤ n ∧ n ≤ 99) ∧ z = -1 ∧ mv = mem ∨ ((0 ≤ r ∧ r ≤ 3) ∧ (0 ≤ k ∧ k < mem 1 0) ∧ (if r = 3 then 1 else 0) ≤ n ∧ n ≤ 99) ∧ (mem 1 (11 + 8 * r + k).toNat = n ∧ z = -2 ∧ mv = mem ∨ mem 1 (11 + 8 * r + k).toNat ≠ n ∧ z = mem 1 (11 + 8 * r + k).toNat ∧ ∃ m1, PastPush mem m1 ∧ mv = mset m1 1 (11 + 8 * r + k).toNat n))) := by
  refine ret_of (by decide +kernel) (Nat.le_of_ble_eq_true rfl) (fun X hX F G => ?_)
  show Ok shp X 6 0 [(0, pR 0), (1, pI r), (2, pI k), (3, pI n)] [] mem
  refine ok_iload_n F dX8_put_0 1 rfl ?_
  refine ok_i2l F dX8_put_1 (by first | omega | exact hR _) ?_
  refine ok_lconst (z := 0) F dX8_put_2 rfl ?_
  refine ok_ldc2 (n := 3) F dX8_put_3 kJ_X8_213 rfl ?_
  refine ok_calls F [pL r, pL 0, pL 3] dX8_put_6 kM_X8_in kS_X8_in kL_X8_100 rfl (by decide) (Nat.le_of_ble_eq_true rfl) rfl (m_X8_in _ r 0 3 mem (by omega) (by omega) (by omega)) ?_
  rintro _ _ ⟨rfl, rfl⟩
  refine ok_if_eq F 41 dX8_put_9 (by decide) (by first | omega | exact hR _) (fun c_1 => ?_) (fun c_1 => ?_)
  · refine ok_iconst F dX8_put_41 ?_
    refine ok_iret F G dX8_put_42 ?_
    exact ⟨_, rfl, Or.inl ⟨by omega, rfl, rfl⟩⟩
  · refine ok_aload_n F dX8_put_12 0 rfl ?_
    refine ok_iload_n F dX8_put_13 2 rfl ?_
    refine ok_callv F [pI k] dX8_put_14 kM_X8_isKind kI_X8_isKind kV_X8_isKind kL_X8_215 (ci := 8) rfl sh_0 rfl (by decide) (Nat.le_of_ble_eq_true rfl) rfl (m_X8_isKind _ k mem (by omega) (by omega)) ?_
    rintro _ _ ⟨rfl, rfl⟩
    refine ok_if_eq F 41 dX8_put_17 (by decide) (by first | omega | exact hR _) (fun c_2 => ?_) (fun c_2 => ?_)
    · refine ok_iconst F dX8_put_41 ?_
      refine ok_iret F G dX8_put_42 ?_
      exact ⟨_, rfl, Or.inl ⟨by omega, rfl, rfl⟩⟩
    · refine ok_iload_n F dX8_put_20 3 rfl ?_
      refine ok_i2l F dX8_put_21 (by first | omega | exact hR _) ?_
      refine ok_iload_n F dX8_put_22 1 rfl ?_
      refine ok_iconst F dX8_put_23 ?_
      refine ok_icmp_ne F 31 dX8_put_24 (by decide) (by first | omega | exact hR _) (by first | omega | exact hR _) (fun c_3 => ?_) (fun c_3 => ?_)
      · refine ok_lconst (z := 0) F dX8_put_31 rfl ?_
        refine ok_ldc2 (n := 99) F dX8_put_32 kJ_X8_219 rfl ?_
        refine ok_calls F [pL n, pL 0, pL 99] dX8_put_35 kM_X8_in kS_X8_in kL_X8_100 rfl (by decide) (Nat.le_of_ble_eq_true rfl) rfl (m_X8_in _ n 0 99 mem (by omega) (by omega) (by omega)) ?_
        rintro _ _ ⟨rfl, rfl⟩
        refine ok_if_ne F 43 dX8_put_38 (by decide) (by first | omega | exact hR _) (fun c_4 => ?_) (fun c_4 => ?_)
        · refine ok_aload_n F dX8_put_43 0 rfl ?_
          refine ok_iload_n F dX8_put_44 1 rfl ?_
          refine ok_callv F [pI r] dX8_put_45 kM_X8_rowOf kI_X8_rowOf kV_X8_rowOf kL_X8_221 (ci := 8) rfl sh_0 rfl (by decide) (Nat.le_of_ble_eq_true rfl) rfl (m_X8_rowOf _ r mem (by omega)) ?_
          rintro _ _ ⟨rfl, rfl⟩
          refine ok_iload_n F dX8_put_48 2 rfl ?_
          refine ok_iadd F dX8_put_49 ?_
          refine ok_istore (lv' := [(4, pI ((11 + 8 * r) + k)), (0, pR 0), (1, pI r), (2, pI k), (3, pI n)]) F dX8_put_50 (by decide) rfl ?_
          refine ok_aload_n F dX8_put_52 1 rfl ?_
          refine ok_getr F dX8_put_53 kF_X8_9 sh_0 rfl ?_
          refine ok_iload F dX8_put_56 0 rfl ?_
          refine ok_iald (v := mem 1 (((11 + 8 * r) + k).toNat)) F dX8_put_58 sh_1 (by first | decide | assumption) (by first | omega | exact hR _) (by first | omega | exact hR _) rfl ?_
          refine ok_istore (lv' := [(5, pI (mem 1 (((11 + 8 * r) + k).toNat))), (4, pI ((11 + 8 * r) + k)), (0, pR 0), (1, pI r), (2, pI k), (3, pI n)]) F dX8_put_59 (by decide) rfl ?_
          refine ok_iload F dX8_put_61 0 rfl ?_
          refine ok_iload_n F dX8_put_63 5 rfl ?_
          refine ok_icmp_ne F 70 dX8_put_64 (by decide) (by first | omega | exact hR _) (by first | omega | exact hR _) (fun c_5 => ?_) (fun c_5 => ?_)
          · refine ok_aload_n F dX8_put_70 2 rfl ?_
            refine ok_callv F [] dX8_put_71 kM_X8_keepsPast kI_X8_keepsPast kV_X8_keepsPast kL_X8_224 (ci := 8) rfl sh_0 rfl (by decide) (Nat.le_of_ble_eq_true rfl) rfl (m_X8_keepsPast _ mem (by omega)) ?_
            rintro _ m_7 ⟨rfl, r_8⟩
            refine ok_aload_n F dX8_put_74 2 rfl ?_
            refine ok_getr F dX8_put_75 kF_X8_9 sh_0 rfl ?_
            refine ok_iload F dX8_put_78 1 rfl ?_
            refine ok_iload_n F dX8_put_80 5 rfl ?_
            refine ok_iast F dX8_put_81 sh_1 (by first | decide | assumption) (by first | omega | exact hR _) (by first | omega | exact hR _) (fun m_9 e_10 => ?_)
            refine ok_iload F dX8_put_82 0 rfl ?_
            refine ok_iret F G dX8_put_84 ?_
            exact ⟨_, rfl, Or.inr ⟨by omega, Or.inr ⟨by omega, rfl, _, by assumption, by assumption⟩⟩⟩
          · refine ok_bipush F dX8_put_67 rfl ?_
            refine ok_iret F G dX8_put_69 ?_
            exact ⟨_, rfl, Or.inr ⟨by omega, Or.inl ⟨by omega, rfl, rfl⟩⟩⟩
        · refine ok_iconst F dX8_put_41 ?_
          refine ok_iret F G dX8_put_42 ?_
          exact ⟨_, rfl, Or.inl ⟨by omega, rfl, rfl⟩⟩
      · refine ok_lconst (z := 1) F dX8_put_27 rfl ?_
        refine ok_goto F 32 dX8_put_28 (by decide) ?_
        refine ok_ldc2 (n := 99) F dX8_put_32 kJ_X8_219 rfl ?_
        refine ok_calls F [pL n, pL 1, pL 99] dX8_put_35 kM_X8_in kS_X8_in kL_X8_100 rfl (by decide) (Nat.le_of_ble_eq_true rfl) rfl (m_X8_in _ n 1 99 mem (by omega) (by omega) (by omega)) ?_
        rintro _ _ ⟨rfl, rfl⟩
        refine ok_if_ne F 43 dX8_put_38 (by decide) (by first | omega | exact hR _) (fun c_11 => ?_) (fun c_11 => ?_)
        · refine ok_aload_n F dX8_put_43 0 rfl ?_
          refine ok_iload_n F dX8_put_44 1 rfl ?_
          refine ok_callv F [pI r] dX8_put_45 kM_X8_rowOf kI_X8_rowOf kV_X8_rowOf kL_X8_221 (ci := 8) rfl sh_0 rfl (by decide) (Nat.le_of_ble_eq_true rfl) rfl (m_X8_rowOf _ r mem (by omega)) ?_
          rintro _ _ ⟨rfl, rfl⟩
          refine ok_iload_n F dX8_put_48 2 rfl ?_
          refine ok_iadd F dX8_put_49 ?_
          refine ok_istore (lv' := [(4, pI ((11 + 8 * r) + k)), (0, pR 0), (1, pI r), (2, pI k), (3, pI n)]) F dX8_put_50 (by decide) rfl ?_
          refine ok_aload_n F dX8_put_52 1 rfl ?_
          refine ok_getr F dX8_put_53 kF_X8_9 sh_0 rfl ?_
          refine ok_iload F dX8_put_56 0 rfl ?_
          refine ok_iald (v := mem 1 (((11 + 8 * r) + k).toNat)) F dX8_put_58 sh_1 (by first | decide | assumption) (by first | omega | exact hR _) (by first | omega | exact hR _) rfl ?_
          refine ok_istore (lv' := [(5, pI (mem 1 (((11 + 8 * r) + k).toNat))), (4, pI ((11 + 8 * r) + k)), (0, pR 0), (1, pI r), (2, pI k), (3, pI n)]) F dX8_put_59 (by decide) rfl ?_
          refine ok_iload F dX8_put_61 0 rfl ?_
          refine ok_iload_n F dX8_put_63 5 rfl ?_
          refine ok_icmp_ne F 70 dX8_put_64 (by decide) (by first | omega | exact hR _) (by first | omega | exact hR _) (fun c_12 => ?_) (fun c_12 => ?_)
          · refine ok_aload_n F dX8_put_70 2 rfl ?_
            refine ok_callv F [] dX8_put_71 kM_X8_keepsPast kI_X8_keepsPast kV_X8_keepsPast kL_X8_224 (ci := 8) rfl sh_0 rfl (by decide) (Nat.le_of_ble_eq_true rfl) rfl (m_X8_keepsPast _ mem (by omega)) ?_
            rintro _ m_14 ⟨rfl, r_15⟩
            refine ok_aload_n F dX8_put_74 2 rfl ?_
            refine ok_getr F dX8_put_75 kF_X8_9 sh_0 rfl ?_
            refine ok_iload F dX8_put_78 1 rfl ?_
            refine ok_iload_n F dX8_put_80 5 rfl ?_
            refine ok_iast F dX8_put_81 sh_1 (by first | decide | assumption) (by first | omega | exact hR _) (by first | omega | exact hR _) (fun m_16 e_17 => ?_)
            refine ok_iload F dX8_put_82 0 rfl ?_
            refine ok_iret F G dX8_put_84 ?_
            exact ⟨_, rfl, Or.inr ⟨by omega, Or.inr ⟨by omega, rfl, _, by assumption, by assumption⟩⟩⟩
          · refine ok_bipush F dX8_put_67 rfl ?_
            refine ok_iret F G dX8_put_69 ?_
            exact ⟨_, rfl, Or.inr ⟨by omega, Or.inl ⟨by omega, rfl, rfl⟩⟩⟩
        · refine ok_iconst F dX8_put_41 ?_
          refine ok_iret F G dX8_put_42 ?_
          exact ⟨_, rfl, Or.inl ⟨by omega, rfl, rfl⟩⟩
theorem dX8_hand_0 : decode cX8_hand 0 = .ok (.aload_n 0, 1) := by decide +kernel
theorem dX8_hand_1 : decode cX8_hand 1 = .ok (.iload_n 1, 1) := by decide +kernel
theorem dX8_hand_2 : decode cX8_hand 2 = .ok (.invokevirtual 215, 3) := by decide +kernel
theorem dX8_hand_5 : decode cX8_hand 5 = .ok (.ifCond .ne 5, 3) := by decide +kernel
theorem dX8_hand_8 : decode cX8_hand 8 = .ok (.iconst (-1), 1) := by decide +kernel
theorem dX8_hand_9 : decode cX8_hand 9 = .ok (.ireturn, 1) := by decide +kernel
theorem dX8_hand_10 : decode cX8_hand 10 = .ok (.aload_n 0, 1) := by decide +kernel
theorem dX8_hand_11 : decode cX8_hand 11 = .ok (.getfield 9, 3) := by decide +kernel
theorem dX8_hand_14 : decode cX8_hand 14 = .ok (.bipush 19, 2) := by decide +kernel
theorem dX8_hand_16 : decode cX8_hand 16 = .ok (.iload_n 1, 1) := by decide +kernel
theorem dX8_hand_17 : decode cX8_hand 17 = .ok (.iadd, 1) := by decide +kernel
theorem dX8_hand_18 : decode cX8_hand 18 = .ok (.iaload, 1) := by decide +kernel
theorem dX8_hand_19 : decode cX8_hand 19 = .ok (.ifCond .ne 6, 3) := by decide +kernel
theorem dX8_hand_22 : decode cX8_hand 22 = .ok (.bipush (-2), 2) := by decide +kernel
theorem dX8_hand_24 : decode cX8_hand 24 = .ok (.ireturn, 1) := by decide +kernel
theorem dX8_hand_25 : decode cX8_hand 25 = .ok (.aload_n 0, 1) := by decide +kernel
theorem dX8_hand_26 : decode cX8_hand 26 = .ok (.bipush 43, 2) := by decide +kernel
theorem dX8_hand_28 : decode cX8_hand 28 = .ok (.invokevirtual 227, 3) := by decide +kernel
theorem dX8_hand_31 : decode cX8_hand 31 = .ok (.iconst 5, 1) := by decide +kernel
theorem dX8_hand_32 : decode cX8_hand 32 = .ok (.if_icmp .ne 6, 3) := by decide +kernel
theorem dX8_hand_35 : decode cX8_hand 35 = .ok (.bipush (-3), 2) := by decide +kernel
theorem dX8_hand_37 : decode cX8_hand 37 = .ok (.ireturn, 1) := by decide +kernel
theorem dX8_hand_38 : decode cX8_hand 38 = .ok (.aload_n 0, 1) := by decide +kernel
theorem dX8_hand_39 : decode cX8_hand 39 = .ok (.invokevirtual 224, 3) := by decide +kernel
theorem dX8_hand_42 : decode cX8_hand 42 = .ok (.aload_n 0, 1) := by decide +kernel
theorem dX8_hand_43 : decode cX8_hand 43 = .ok (.getfield 9, 3) := by decide +kernel
theorem dX8_hand_46 : decode cX8_hand 46 = .ok (.bipush 19, 2) := by decide +kernel
theorem dX8_hand_48 : decode cX8_hand 48 = .ok (.iload_n 1, 1) := by decide +kernel
theorem dX8_hand_49 : decode cX8_hand 49 = .ok (.iadd, 1) := by decide +kernel
theorem dX8_hand_50 : decode cX8_hand 50 = .ok (.dup2, 1) := by decide +kernel
theorem dX8_hand_51 : decode cX8_hand 51 = .ok (.iaload, 1) := by decide +kernel
theorem dX8_hand_52 : decode cX8_hand 52 = .ok (.iconst 1, 1) := by decide +kernel
theorem dX8_hand_53 : decode cX8_hand 53 = .ok (.isub, 1) := by decide +kernel
theorem dX8_hand_54 : decode cX8_hand 54 = .ok (.iastore, 1) := by decide +kernel
theorem dX8_hand_55 : decode cX8_hand 55 = .ok (.aload_n 0, 1) := by decide +kernel
theorem dX8_hand_56 : decode cX8_hand 56 = .ok (.getfield 9, 3) := by decide +kernel
theorem dX8_hand_59 : decode cX8_hand 59 = .ok (.bipush 43, 2) := by decide +kernel
theorem dX8_hand_61 : decode cX8_hand 61 = .ok (.iload_n 1, 1) := by decide +kernel
theorem dX8_hand_62 : decode cX8_hand 62 = .ok (.iadd, 1) := by decide +kernel
theorem dX8_hand_63 : decode cX8_hand 63 = .ok (.dup2, 1) := by decide +kernel
theorem dX8_hand_64 : decode cX8_hand 64 = .ok (.iaload, 1) := by decide +kernel
theorem dX8_hand_65 : decode cX8_hand 65 = .ok (.iconst 1, 1) := by decide +kernel
theorem dX8_hand_66 : decode cX8_hand 66 = .ok (.iadd, 1) := by decide +kernel
theorem dX8_hand_67 : decode cX8_hand 67 = .ok (.iastore, 1) := by decide +kernel
theorem dX8_hand_68 : decode cX8_hand 68 = .ok (.aload_n 0, 1) := by decide +kernel
theorem dX8_hand_69 : decode cX8_hand 69 = .ok (.bipush 43, 2) := by decide +kernel
theorem dX8_hand_71 : decode cX8_hand 71 = .ok (.invokevirtual 227, 3) := by decide +kernel
theorem dX8_hand_74 : decode cX8_hand 74 = .ok (.ireturn, 1) := by decide +kernel
set_option maxHeartbeats 4000000 in
set_option maxRecDepth 100000 in
theorem m_X8_hand (l : Launch) (k : Int) (mem : Mem) (hk : i32 k) (hN : 0 ≤ mem 1 0 ∧ mem 1 0 ≤ 8) (hP : 0 ≤ mem 0 5 ∧ mem 0 5 ≤ 10) (hR : ∀ b, i32 (mem 1 b)) (hS : i32 (sumN (fun j => mem 1 (43 + j)) (mem 1 0).toNat)) : Ret shp l yX8_hand cX8_hand 2 (some .int) 2 [pR 0, pI k] mem (fun rv mv => ∃ z, rv = some (pI z) ∧ (¬ (0 ≤ k ∧ k < mem 1 0) ∧ z = -1 ∧ mv = mem ∨ (0 ≤ k ∧ k < mem 1 0) ∧ (mem 1 (19 + k).toNat = 0 ∧ z = -2 ∧ mv = mem ∨ mem 1 (19 + k).toNat ≠ 0 ∧ (sumN (fun j => mem 1 (43 + j)) (mem 1 0).toNat = 5 ∧ z = -3 ∧ mv = mem ∨ sumN (fun j => mem 1 (43 + j)) (mem 1 0).toNat ≠ 5 ∧ ∃ m1, PastPush mem m1 ∧ mv = mset (mset m1 1 (19 + k).toNat (mem 1 (19 + k).toNat - 1)) 1 (43 + k).toNat (mem 1 (43 + k).toNat + 1) ∧ z = sumN (fun j => mv 1 (43 + j)) (mv 1 0).toNat)))) := by
  refine ret_of (by decide +kernel) (Nat.le_of_ble_eq_true rfl) (fun X hX F G => ?_)
  show Ok shp X 2 0 [(0, pR 0), (1, pI k)] [] mem
  refine ok_aload_n F dX8_hand_0 0 rfl ?_
  refine ok_iload_n F dX8_hand_1 1 rfl ?_
  refine ok_callv F [pI k] dX8_hand_2 kM_X8_isKind kI_X8_isKind kV_X8_isKind kL_X8_215 (ci := 8) rfl sh_0 rfl (by decide) (Nat.le_of_ble_eq_true rfl) rfl (m_X8_isKind _ k mem (by omega) (by omega)) ?_
  rintro _ _ ⟨rfl, rfl⟩
  refine ok_if_ne F 10 dX8_hand_5 (by decide) (by first | omega | exact hR _) (fun c_1 => ?_) (fun c_1 => ?_)
  · refine ok_aload_n F dX8_hand_10 0 rfl ?_
    refine ok_getr F dX8_hand_11 kF_X8_9 sh_0 rfl ?_
    refine ok_bipush F dX8_hand_14 rfl ?_
    refine ok_iload_n F dX8_hand_16 1 rfl ?_
    refine ok_iadd F dX8_hand_17 ?_
    refine ok_iald (v := mem 1 ((19 + k).toNat)) F dX8_hand_18 sh_1 (by first | decide | assumption) (by first | omega | exact hR _) (by first | omega | exact hR _) rfl ?_
    refine ok_if_ne F 25 dX8_hand_19 (by decide) (by first | omega | exact hR _) (fun c_2 => ?_) (fun c_2 => ?_)
    · refine ok_aload_n F dX8_hand_25 0 rfl ?_
      refine ok_bipush F dX8_hand_26 rfl ?_
      refine ok_callv F [pI 43] dX8_hand_28 kM_X8_sumOf kI_X8_sumOf kV_X8_sumOf kL_X8_227 (ci := 8) rfl sh_0 rfl (by decide) (Nat.le_of_ble_eq_true rfl) rfl (m_X8_sumOf _ 43 mem (by omega) (by omega)) ?_
      rintro _ _ ⟨rfl, rfl⟩
      refine ok_iconst F dX8_hand_31 ?_
      refine ok_icmp_ne F 38 dX8_hand_32 (by decide) (hS) (by first | omega | exact hR _) (fun c_3 => ?_) (fun c_3 => ?_)
      · refine ok_aload_n F dX8_hand_38 0 rfl ?_
        refine ok_callv F [] dX8_hand_39 kM_X8_keepsPast kI_X8_keepsPast kV_X8_keepsPast kL_X8_224 (ci := 8) rfl sh_0 rfl (by decide) (Nat.le_of_ble_eq_true rfl) rfl (m_X8_keepsPast _ mem (by omega)) ?_
        rintro _ m_5 ⟨rfl, r_6⟩
        have hp := PastPush.now r_6
        refine ok_aload_n F dX8_hand_42 0 rfl ?_
        refine ok_getr F dX8_hand_43 kF_X8_9 sh_0 rfl ?_
        refine ok_bipush F dX8_hand_46 rfl ?_
        refine ok_iload_n F dX8_hand_48 1 rfl ?_
        refine ok_iadd F dX8_hand_49 ?_
        refine ok_dup2 F dX8_hand_50 rfl rfl ?_
        refine ok_iald (v := mem 1 ((19 + k).toNat)) F dX8_hand_51 sh_1 (by first | decide | assumption) (by first | omega | exact hR _) (by first | omega | exact hR _) (by rw [PastPush.now r_6] <;> rfl) ?_
        refine ok_iconst F dX8_hand_52 ?_
        refine ok_isub F dX8_hand_53 ?_
        refine ok_iast F dX8_hand_54 sh_1 (by first | decide | assumption) (by first | omega | exact hR _) (by first | omega | exact hR _) (fun m_7 e_8 => ?_)
        refine ok_aload_n F dX8_hand_55 0 rfl ?_
        refine ok_getr F dX8_hand_56 kF_X8_9 sh_0 rfl ?_
        refine ok_bipush F dX8_hand_59 rfl ?_
        refine ok_iload_n F dX8_hand_61 1 rfl ?_
        refine ok_iadd F dX8_hand_62 ?_
        refine ok_dup2 F dX8_hand_63 rfl rfl ?_
        refine ok_iald (v := m_7 1 ((43 + k).toNat)) F dX8_hand_64 sh_1 (by first | decide | assumption) (by first | omega | exact hR _) (by first | omega | exact hR _) rfl ?_
        refine ok_iconst F dX8_hand_65 ?_
        refine ok_iadd F dX8_hand_66 ?_
        refine ok_iast F dX8_hand_67 sh_1 (by first | decide | assumption) (by first | omega | exact hR _) (by first | omega | exact hR _) (fun m_9 e_10 => ?_)
        refine ok_aload_n F dX8_hand_68 0 rfl ?_
        refine ok_bipush F dX8_hand_69 rfl ?_
        refine ok_callv F [pI 43] dX8_hand_71 kM_X8_sumOf kI_X8_sumOf kV_X8_sumOf kL_X8_227 (ci := 8) rfl sh_0 rfl (by decide) (Nat.le_of_ble_eq_true rfl) rfl (m_X8_sumOf _ 43 m_9 (by omega) (by subst_vars; rw [mset_ne (by omega), mset_ne (by omega), hp]; exact hN)) ?_
        rintro _ _ ⟨rfl, rfl⟩
        refine ok_iret F G dX8_hand_74 ?_
        refine ⟨_, rfl, Or.inr ⟨by omega, Or.inr ⟨by omega, Or.inr ⟨by assumption, _, by assumption, ?_, rfl⟩⟩⟩⟩
        rw [e_10, e_8, mset_ne (by omega), hp]
      · refine ok_bipush F dX8_hand_35 rfl ?_
        refine ok_iret F G dX8_hand_37 ?_
        exact ⟨_, rfl, Or.inr ⟨by omega, Or.inr ⟨by omega, Or.inl ⟨by assumption, rfl, rfl⟩⟩⟩⟩
    · refine ok_bipush F dX8_hand_22 rfl ?_
      refine ok_iret F G dX8_hand_24 ?_
      exact ⟨_, rfl, Or.inr ⟨by omega, Or.inl ⟨by omega, rfl, rfl⟩⟩⟩
  · refine ok_iconst F dX8_hand_8 ?_
    refine ok_iret F G dX8_hand_9 ?_
    exact ⟨_, rfl, Or.inl ⟨by omega, rfl, rfl⟩⟩
theorem dX8_order_0 : decode cX8_order 0 = .ok (.aload_n 0, 1) := by decide +kernel
theorem dX8_order_1 : decode cX8_order 1 = .ok (.iload_n 1, 1) := by decide +kernel
theorem dX8_order_2 : decode cX8_order 2 = .ok (.invokevirtual 215, 3) := by decide +kernel
theorem dX8_order_5 : decode cX8_order 5 = .ok (.ifCond .eq 15, 3) := by decide +kernel
theorem dX8_order_8 : decode cX8_order 8 = .ok (.iload_n 2, 1) := by decide +kernel
theorem dX8_order_9 : decode cX8_order 9 = .ok (.i2l, 1) := by decide +kernel
theorem dX8_order_10 : decode cX8_order 10 = .ok (.lconst 1, 1) := by decide +kernel
theorem dX8_order_11 : decode cX8_order 11 = .ok (.ldc2_w 294, 3) := by decide +kernel
theorem dX8_order_14 : decode cX8_order 14 = .ok (.invokestatic 100, 3) := by decide +kernel
theorem dX8_order_17 : decode cX8_order 17 = .ok (.ifCond .ne 5, 3) := by decide +kernel
theorem dX8_order_20 : decode cX8_order 20 = .ok (.iconst (-1), 1) := by decide +kernel
theorem dX8_order_21 : decode cX8_order 21 = .ok (.ireturn, 1) := by decide +kernel
theorem dX8_order_22 : decode cX8_order 22 = .ok (.aload_n 0, 1) := by decide +kernel
theorem dX8_order_23 : decode cX8_order 23 = .ok (.getfield 9, 3) := by decide +kernel
theorem dX8_order_26 : decode cX8_order 26 = .ok (.bipush 11, 2) := by decide +kernel
theorem dX8_order_28 : decode cX8_order 28 = .ok (.iload_n 1, 1) := by decide +kernel
theorem dX8_order_29 : decode cX8_order 29 = .ok (.iadd, 1) := by decide +kernel
theorem dX8_order_30 : decode cX8_order 30 = .ok (.iaload, 1) := by decide +kernel
theorem dX8_order_31 : decode cX8_order 31 = .ok (.iload_n 2, 1) := by decide +kernel
theorem dX8_order_32 : decode cX8_order 32 = .ok (.aload_n 0, 1) := by decide +kernel
theorem dX8_order_33 : decode cX8_order 33 = .ok (.getfield 9, 3) := by decide +kernel
theorem dX8_order_36 : decode cX8_order 36 = .ok (.bipush 35, 2) := by decide +kernel
theorem dX8_order_38 : decode cX8_order 38 = .ok (.iload_n 1, 1) := by decide +kernel
theorem dX8_order_39 : decode cX8_order 39 = .ok (.iadd, 1) := by decide +kernel
theorem dX8_order_40 : decode cX8_order 40 = .ok (.iaload, 1) := by decide +kernel
theorem dX8_order_41 : decode cX8_order 41 = .ok (.imul, 1) := by decide +kernel
theorem dX8_order_42 : decode cX8_order 42 = .ok (.iadd, 1) := by decide +kernel
theorem dX8_order_43 : decode cX8_order 43 = .ok (.istore_n 3, 1) := by decide +kernel
theorem dX8_order_44 : decode cX8_order 44 = .ok (.iload_n 3, 1) := by decide +kernel
theorem dX8_order_45 : decode cX8_order 45 = .ok (.bipush 99, 2) := by decide +kernel
theorem dX8_order_47 : decode cX8_order 47 = .ok (.if_icmp .le 6, 3) := by decide +kernel
theorem dX8_order_50 : decode cX8_order 50 = .ok (.bipush (-2), 2) := by decide +kernel
theorem dX8_order_52 : decode cX8_order 52 = .ok (.ireturn, 1) := by decide +kernel
theorem dX8_order_53 : decode cX8_order 53 = .ok (.aload_n 0, 1) := by decide +kernel
theorem dX8_order_54 : decode cX8_order 54 = .ok (.invokevirtual 224, 3) := by decide +kernel
theorem dX8_order_57 : decode cX8_order 57 = .ok (.aload_n 0, 1) := by decide +kernel
theorem dX8_order_58 : decode cX8_order 58 = .ok (.getfield 9, 3) := by decide +kernel
theorem dX8_order_61 : decode cX8_order 61 = .ok (.bipush 11, 2) := by decide +kernel
theorem dX8_order_63 : decode cX8_order 63 = .ok (.iload_n 1, 1) := by decide +kernel
theorem dX8_order_64 : decode cX8_order 64 = .ok (.iadd, 1) := by decide +kernel
theorem dX8_order_65 : decode cX8_order 65 = .ok (.iload_n 3, 1) := by decide +kernel
theorem dX8_order_66 : decode cX8_order 66 = .ok (.iastore, 1) := by decide +kernel
theorem dX8_order_67 : decode cX8_order 67 = .ok (.iload_n 3, 1) := by decide +kernel
theorem dX8_order_68 : decode cX8_order 68 = .ok (.ireturn, 1) := by decide +kernel
set_option maxHeartbeats 4000000 in
set_option maxRecDepth 100000 in
theorem m_X8_order (l : Launch) (k : Int) (n : Int) (mem : Mem) (hk : i32 k) (hn : i32 n) (hN : 0 ≤ mem 1 0 ∧ mem 1 0 ≤ 8) (hP : 0 ≤ mem 0 5 ∧ mem 0 5 ≤ 10) (hTl : ∀ k : Nat, k < 8 → 0 ≤ mem 1 (11 + k) ∧ mem 1 (11 + k) ≤ 99) (hBg : ∀ k : Nat, k < 8 → 0 ≤ mem 1 (35 + k) ∧ mem 1 (35 + k) ≤ 99) : Ret shp l yX8_order cX8_order 4 (some .int) 2 [pR 0, pI k, pI n] mem (fun rv mv => ∃ z, rv = some (pI z) ∧ (¬ ((0 ≤ k ∧ k < mem 1 0) ∧ 1 ≤ n ∧ n ≤ 9) ∧ z = -1 ∧ mv = mem ∨ ((0 ≤ k ∧ k < mem 1 0) ∧ 1 ≤ n ∧ n ≤ 9) ∧ (99 < mem 1 (11 + k).toNat + n * mem 1 (35 + k).toNat ∧ z = -2 ∧ mv = mem ∨ mem 1 (11 + k).toNat + n * mem 1 (35 + k).toNat ≤ 99 ∧ z = mem 1 (11 + k).toNat + n * mem 1 (35 + k).toNat ∧ ∃ m1, PastPush mem m1 ∧ mv = mset m1 1 (11 + k).toNat (mem 1 (11 + k).toNat + n * mem 1 (35 + k).toNat)))) := by
  refine ret_of (by decide +kernel) (Nat.le_of_ble_eq_true rfl) (fun X hX F G => ?_)
  show Ok shp X 4 0 [(0, pR 0), (1, pI k), (2, pI n)] [] mem
  refine ok_aload_n F dX8_order_0 0 rfl ?_
  refine ok_iload_n F dX8_order_1 1 rfl ?_
  refine ok_callv F [pI k] dX8_order_2 kM_X8_isKind kI_X8_isKind kV_X8_isKind kL_X8_215 (ci := 8) rfl sh_0 rfl (by decide) (Nat.le_of_ble_eq_true rfl) rfl (m_X8_isKind _ k mem (by omega) (by omega)) ?_
  rintro _ _ ⟨rfl, rfl⟩
  refine ok_if_eq F 20 dX8_order_5 (by decide) (by omega) (fun c_1 => ?_) (fun c_1 => ?_)
  · refine ok_iconst F dX8_order_20 ?_
    refine ok_iret F G dX8_order_21 ?_
    exact ⟨_, rfl, Or.inl ⟨by omega, rfl, rfl⟩⟩
  · refine ok_iload_n F dX8_order_8 2 rfl ?_
    refine ok_i2l F dX8_order_9 (by omega) ?_
    refine ok_lconst (z := 1) F dX8_order_10 rfl ?_
    refine ok_ldc2 (n := 9) F dX8_order_11 kJ_X8_294 rfl ?_
    refine ok_calls F [pL n, pL 1, pL 9] dX8_order_14 kM_X8_in kS_X8_in kL_X8_100 rfl (by decide) (Nat.le_of_ble_eq_true rfl) rfl (m_X8_in _ n 1 9 mem (by omega) (by omega) (by omega)) ?_
    rintro _ _ ⟨rfl, rfl⟩
    refine ok_if_ne F 22 dX8_order_17 (by decide) (by omega) (fun c_2 => ?_) (fun c_2 => ?_)
    · refine ok_aload_n F dX8_order_22 0 rfl ?_
      refine ok_getr F dX8_order_23 kF_X8_9 sh_0 rfl ?_
      refine ok_bipush F dX8_order_26 rfl ?_
      refine ok_iload_n F dX8_order_28 1 rfl ?_
      refine ok_iadd F dX8_order_29 ?_
      refine ok_iald (v := mem 1 ((11 + k).toNat)) F dX8_order_30 sh_1 (by first | decide | assumption) (by omega) (by omega) rfl ?_
      refine ok_iload_n F dX8_order_31 2 rfl ?_
      refine ok_aload_n F dX8_order_32 0 rfl ?_
      refine ok_getr F dX8_order_33 kF_X8_9 sh_0 rfl ?_
      refine ok_bipush F dX8_order_36 rfl ?_
      refine ok_iload_n F dX8_order_38 1 rfl ?_
      refine ok_iadd F dX8_order_39 ?_
      refine ok_iald (v := mem 1 ((35 + k).toNat)) F dX8_order_40 sh_1 (by first | decide | assumption) (by omega) (by omega) rfl ?_
      refine ok_imul F dX8_order_41 ?_
      refine ok_iadd F dX8_order_42 ?_
      refine ok_istore_n (lv' := [(3, pI ((mem 1 ((11 + k).toNat)) + (n * (mem 1 ((35 + k).toNat))))), (0, pR 0), (1, pI k), (2, pI n)]) F dX8_order_43 (by decide) rfl ?_
      refine ok_iload_n F dX8_order_44 0 rfl ?_
      refine ok_bipush F dX8_order_45 rfl ?_
      have q1 := hTl k.toNat (by omega)
      have q2 := hBg k.toNat (by omega)
      rw [show 11 + k.toNat = (11 + k).toNat by omega] at q1
      rw [show 35 + k.toNat = (35 + k).toNat by omega] at q2
      have q3 : 0 ≤ n * mem 1 (35 + k).toNat ∧ n * mem 1 (35 + k).toNat ≤ 9 * 99 := ⟨Int.mul_nonneg (by omega) q2.1, Int.le_trans (Int.mul_le_mul_of_nonneg_right (by omega) q2.1) (Int.mul_le_mul_of_nonneg_left q2.2 (by omega))⟩
      refine ok_icmp_le F 53 dX8_order_47 (by decide) (by omega) (by omega) (fun c_3 => ?_) (fun c_3 => ?_)
      · refine ok_aload_n F dX8_order_53 1 rfl ?_
        refine ok_callv F [] dX8_order_54 kM_X8_keepsPast kI_X8_keepsPast kV_X8_keepsPast kL_X8_224 (ci := 8) rfl sh_0 rfl (by decide) (Nat.le_of_ble_eq_true rfl) rfl (m_X8_keepsPast _ mem (by omega)) ?_
        rintro _ m_5 ⟨rfl, r_6⟩
        refine ok_aload_n F dX8_order_57 1 rfl ?_
        refine ok_getr F dX8_order_58 kF_X8_9 sh_0 rfl ?_
        refine ok_bipush F dX8_order_61 rfl ?_
        refine ok_iload_n F dX8_order_63 2 rfl ?_
        refine ok_iadd F dX8_order_64 ?_
        refine ok_iload_n F dX8_order_65 0 rfl ?_
        refine ok_iast F dX8_order_66 sh_1 (by first | decide | assumption) (by omega) (by omega) (fun m_7 e_8 => ?_)
        refine ok_iload_n F dX8_order_67 0 rfl ?_
        refine ok_iret F G dX8_order_68 ?_
        exact ⟨_, rfl, Or.inr ⟨by omega, Or.inr ⟨by omega, rfl, _, by assumption, by assumption⟩⟩⟩
      · refine ok_bipush F dX8_order_50 rfl ?_
        refine ok_iret F G dX8_order_52 ?_
        exact ⟨_, rfl, Or.inr ⟨by omega, Or.inl ⟨by omega, rfl, rfl⟩⟩⟩
    · refine ok_iconst F dX8_order_20 ?_
      refine ok_iret F G dX8_order_21 ?_
      exact ⟨_, rfl, Or.inl ⟨by omega, rfl, rfl⟩⟩
theorem dX8_kindOf_0 : decode cX8_kindOf 0 = .ok (.iconst 0, 1) := by decide +kernel
theorem dX8_kindOf_1 : decode cX8_kindOf 1 = .ok (.istore_n 2, 1) := by decide +kernel
theorem dX8_kindOf_2 : decode cX8_kindOf 2 = .ok (.iload_n 2, 1) := by decide +kernel
theorem dX8_kindOf_3 : decode cX8_kindOf 3 = .ok (.aload_n 0, 1) := by decide +kernel
theorem dX8_kindOf_4 : decode cX8_kindOf 4 = .ok (.getfield 13, 3) := by decide +kernel
theorem dX8_kindOf_7 : decode cX8_kindOf 7 = .ok (.iconst 0, 1) := by decide +kernel
theorem dX8_kindOf_8 : decode cX8_kindOf 8 = .ok (.iaload, 1) := by decide +kernel
theorem dX8_kindOf_9 : decode cX8_kindOf 9 = .ok (.if_icmp .ge 23, 3) := by decide +kernel
theorem dX8_kindOf_12 : decode cX8_kindOf 12 = .ok (.aload_n 0, 1) := by decide +kernel
theorem dX8_kindOf_13 : decode cX8_kindOf 13 = .ok (.getfield 13, 3) := by decide +kernel
theorem dX8_kindOf_16 : decode cX8_kindOf 16 = .ok (.iconst 3, 1) := by decide +kernel
theorem dX8_kindOf_17 : decode cX8_kindOf 17 = .ok (.iload_n 2, 1) := by decide +kernel
theorem dX8_kindOf_18 : decode cX8_kindOf 18 = .ok (.iadd, 1) := by decide +kernel
theorem dX8_kindOf_19 : decode cX8_kindOf 19 = .ok (.iaload, 1) := by decide +kernel
theorem dX8_kindOf_20 : decode cX8_kindOf 20 = .ok (.iload_n 1, 1) := by decide +kernel
theorem dX8_kindOf_21 : decode cX8_kindOf 21 = .ok (.if_icmp .ne 5, 3) := by decide +kernel
theorem dX8_kindOf_24 : decode cX8_kindOf 24 = .ok (.iload_n 2, 1) := by decide +kernel
theorem dX8_kindOf_25 : decode cX8_kindOf 25 = .ok (.ireturn, 1) := by decide +kernel
theorem dX8_kindOf_26 : decode cX8_kindOf 26 = .ok (.iinc 2 1, 3) := by decide +kernel
theorem dX8_kindOf_29 : decode cX8_kindOf 29 = .ok (.goto (-27), 3) := by decide +kernel
theorem dX8_kindOf_32 : decode cX8_kindOf 32 = .ok (.iconst (-1), 1) := by decide +kernel
theorem dX8_kindOf_33 : decode cX8_kindOf 33 = .ok (.ireturn, 1) := by decide +kernel
set_option maxHeartbeats 4000000 in
set_option maxRecDepth 100000 in
theorem m_X8_kindOf (l : Launch) (v : Int) (mem : Mem) (hv : i32 v) (hN : 0 ≤ mem 2 0 ∧ mem 2 0 ≤ 8) (hR : ∀ b, i32 (mem 2 b)) : Ret shp l yX8_kindOf cX8_kindOf 3 (some .int) 0 [pR 0, pI v] mem (fun rv mv => rv = some (pI (kindAt (fun k => mem 2 (3 + k)) v (mem 2 0).toNat 0)) ∧ mem = mv) := by
  refine ret_of (by decide +kernel) (Nat.le_of_ble_eq_true rfl) (fun X hX F G => ?_)
  show Ok shp X 3 0 [(0, pR 0), (1, pI v)] [] mem
  refine ok_iconst F dX8_kindOf_0 ?_
  refine ok_istore_n (lv' := [(2, pI 0), (0, pR 0), (1, pI v)]) F dX8_kindOf_1 (by decide) rfl ?_
  have hL_2 : ∀ (n_2 : Nat) (k : Int), (0 ≤ k ∧ k ≤ mem 2 0 ∧ kindAt (fun k => mem 2 (3 + k)) v (mem 2 0).toNat 0 = kindAt (fun k => mem 2 (3 + k)) v (mem 2 0 - k).toNat k.toNat) → (mem 2 0 - k).toNat = n_2 → Ok shp X 3 2 [(0, pR 0), (1, pI v), (2, pI k)] [] mem := by
    intro n_2
    induction n_2 using Nat.strongRecOn with
    | _ n_2 ih_2 =>
      intro k hI_2 hn_2
      refine ok_iload_n F dX8_kindOf_2 2 rfl ?_
      refine ok_aload_n F dX8_kindOf_3 0 rfl ?_
      refine ok_getr F dX8_kindOf_4 kF_X8_13 sh_0 rfl ?_
      refine ok_iconst F dX8_kindOf_7 ?_
      refine ok_iald (v := mem 2 0) F dX8_kindOf_8 sh_2 (by first | decide | assumption) (by first | omega | exact hR _) (by first | omega | exact hR _) rfl ?_
      refine ok_icmp_ge F 32 dX8_kindOf_9 (by decide) (by first | omega | exact hR _) (by first | omega | exact hR _) (fun c_1 => ?_) (fun c_1 => ?_)
      · refine ok_iconst F dX8_kindOf_32 ?_
        refine ok_iret F G dX8_kindOf_33 ?_
        refine ⟨?_, rfl⟩
        rw [hI_2.2.2, show (mem 2 0 - k).toNat = 0 by omega]
        rfl
      · refine ok_aload_n F dX8_kindOf_12 0 rfl ?_
        refine ok_getr F dX8_kindOf_13 kF_X8_13 sh_0 rfl ?_
        refine ok_iconst F dX8_kindOf_16 ?_
        refine ok_iload_n F dX8_kindOf_17 2 rfl ?_
        refine ok_iadd F dX8_kindOf_18 ?_
        refine ok_iald (v := mem 2 ((3 + k).toNat)) F dX8_kindOf_19 sh_2 (by first | decide | assumption) (by first | omega | exact hR _) (by first | omega | exact hR _) rfl ?_
        refine ok_iload_n F dX8_kindOf_20 1 rfl ?_
        refine ok_icmp_ne F 26 dX8_kindOf_21 (by decide) (by first | omega | exact hR _) (by first | omega | exact hR _) (fun c_2 => ?_) (fun c_2 => ?_)
        · refine ok_iinc (lv' := [(2, pI (k + 1)), (0, pR 0), (1, pI v)]) F dX8_kindOf_26 2 rfl (by decide) rfl ?_
          refine ok_goto F 2 dX8_kindOf_29 (by decide) ?_
          refine ok_lvp [1, 2, 0] (lv' := [(0, pR 0), (1, pI v), (2, pI (k + 1))]) rfl ?_
          refine ih_2 _ ?_ (k + 1) ?_ rfl
          · omega
          · refine ⟨by omega, by omega, ?_⟩
            rw [hI_2.2.2, show (mem 2 0 - k).toNat = (mem 2 0 - (k + 1)).toNat + 1 by omega]
            rw [kindAt, if_neg (by rw [show 3 + k.toNat = (3 + k).toNat by omega]; omega), show (k + 1).toNat = k.toNat + 1 by omega]
        · refine ok_iload_n F dX8_kindOf_24 2 rfl ?_
          refine ok_iret F G dX8_kindOf_25 ?_
          refine ⟨?_, rfl⟩
          rw [hI_2.2.2, show (mem 2 0 - k).toNat = (mem 2 0 - (k + 1)).toNat + 1 by omega]
          rw [kindAt, if_pos (by rw [show 3 + k.toNat = (3 + k).toNat by omega]; omega), show ((k.toNat : Nat) : Int) = k by omega]
  refine ok_lvp [1, 2, 0] (lv' := [(0, pR 0), (1, pI v), (2, pI 0)]) rfl ?_
  refine hL_2 _ 0 ?_ rfl
  exact ⟨by omega, by omega, by rw [show mem 2 0 - 0 = mem 2 0 by omega]; rfl⟩
theorem dX8_lowestNone_0 : decode cX8_lowestNone 0 = .ok (.iconst 0, 1) := by decide +kernel
theorem dX8_lowestNone_1 : decode cX8_lowestNone 1 = .ok (.istore_n 1, 1) := by decide +kernel
theorem dX8_lowestNone_2 : decode cX8_lowestNone 2 = .ok (.iload_n 1, 1) := by decide +kernel
theorem dX8_lowestNone_3 : decode cX8_lowestNone 3 = .ok (.aload_n 0, 1) := by decide +kernel
theorem dX8_lowestNone_4 : decode cX8_lowestNone 4 = .ok (.getfield 9, 3) := by decide +kernel
theorem dX8_lowestNone_7 : decode cX8_lowestNone 7 = .ok (.iconst 0, 1) := by decide +kernel
theorem dX8_lowestNone_8 : decode cX8_lowestNone 8 = .ok (.iaload, 1) := by decide +kernel
theorem dX8_lowestNone_9 : decode cX8_lowestNone 9 = .ok (.if_icmp .ge 20, 3) := by decide +kernel
theorem dX8_lowestNone_12 : decode cX8_lowestNone 12 = .ok (.aload_n 0, 1) := by decide +kernel
theorem dX8_lowestNone_13 : decode cX8_lowestNone 13 = .ok (.getfield 52, 3) := by decide +kernel
theorem dX8_lowestNone_16 : decode cX8_lowestNone 16 = .ok (.iload_n 1, 1) := by decide +kernel
theorem dX8_lowestNone_17 : decode cX8_lowestNone 17 = .ok (.iaload, 1) := by decide +kernel
theorem dX8_lowestNone_18 : decode cX8_lowestNone 18 = .ok (.ifCond .ne 5, 3) := by decide +kernel
theorem dX8_lowestNone_21 : decode cX8_lowestNone 21 = .ok (.iload_n 1, 1) := by decide +kernel
theorem dX8_lowestNone_22 : decode cX8_lowestNone 22 = .ok (.ireturn, 1) := by decide +kernel
theorem dX8_lowestNone_23 : decode cX8_lowestNone 23 = .ok (.iinc 1 1, 3) := by decide +kernel
theorem dX8_lowestNone_26 : decode cX8_lowestNone 26 = .ok (.goto (-24), 3) := by decide +kernel
theorem dX8_lowestNone_29 : decode cX8_lowestNone 29 = .ok (.bipush (-2), 2) := by decide +kernel
theorem dX8_lowestNone_31 : decode cX8_lowestNone 31 = .ok (.ireturn, 1) := by decide +kernel
set_option maxHeartbeats 4000000 in
set_option maxRecDepth 100000 in
theorem m_X8_lowestNone (l : Launch) (mem : Mem) (hN : 0 ≤ mem 1 0 ∧ mem 1 0 ≤ 8) (h14 : ∀ b : Nat, b < 8 → i32 (mem 14 b)) : Ret shp l yX8_lowestNone cX8_lowestNone 2 (some .int) 0 [pR 0] mem (fun rv mv => rv = some (pI (noneAt (mem 14) (mem 1 0).toNat 0)) ∧ mem = mv) := by
  refine ret_of (by decide +kernel) (Nat.le_of_ble_eq_true rfl) (fun X hX F G => ?_)
  show Ok shp X 2 0 [(0, pR 0)] [] mem
  refine ok_iconst F dX8_lowestNone_0 ?_
  refine ok_istore_n (lv' := [(1, pI 0), (0, pR 0)]) F dX8_lowestNone_1 (by decide) rfl ?_
  have hL_2 : ∀ (n_2 : Nat) (k : Int), (0 ≤ k ∧ k ≤ mem 1 0 ∧ noneAt (mem 14) (mem 1 0).toNat 0 = noneAt (mem 14) (mem 1 0 - k).toNat k.toNat) → (mem 1 0 - k).toNat = n_2 → Ok shp X 2 2 [(0, pR 0), (1, pI k)] [] mem := by
    intro n_2
    induction n_2 using Nat.strongRecOn with
    | _ n_2 ih_2 =>
      intro k hI_2 hn_2
      refine ok_iload_n F dX8_lowestNone_2 1 rfl ?_
      refine ok_aload_n F dX8_lowestNone_3 0 rfl ?_
      refine ok_getr F dX8_lowestNone_4 kF_X8_9 sh_0 rfl ?_
      refine ok_iconst F dX8_lowestNone_7 ?_
      refine ok_iald (v := mem 1 0) F dX8_lowestNone_8 sh_1 (by first | decide | assumption) (by omega) (by omega) rfl ?_
      refine ok_icmp_ge F 29 dX8_lowestNone_9 (by decide) (by omega) (by omega) (fun c_1 => ?_) (fun c_1 => ?_)
      · refine ok_bipush F dX8_lowestNone_29 rfl ?_
        refine ok_iret F G dX8_lowestNone_31 ?_
        refine ⟨?_, rfl⟩
        rw [hI_2.2.2, show (mem 1 0 - k).toNat = 0 by omega]
        rfl
      · have q14 := h14 k.toNat (by omega)
        refine ok_aload_n F dX8_lowestNone_12 0 rfl ?_
        refine ok_getr F dX8_lowestNone_13 kF_X8_52 sh_0 rfl ?_
        refine ok_iload_n F dX8_lowestNone_16 1 rfl ?_
        refine ok_iald (v := mem 14 k.toNat) F dX8_lowestNone_17 sh_14 (by first | decide | assumption) (by omega) (by omega) rfl ?_
        refine ok_if_ne F 23 dX8_lowestNone_18 (by decide) (by omega) (fun c_2 => ?_) (fun c_2 => ?_)
        · refine ok_iinc (lv' := [(1, pI (k + 1)), (0, pR 0)]) F dX8_lowestNone_23 1 rfl (by decide) rfl ?_
          refine ok_goto F 2 dX8_lowestNone_26 (by decide) ?_
          refine ok_lvp [1, 0] (lv' := [(0, pR 0), (1, pI (k + 1))]) rfl ?_
          refine ih_2 _ ?_ (k + 1) ?_ rfl
          · omega
          · refine ⟨by omega, by omega, ?_⟩
            rw [hI_2.2.2, show (mem 1 0 - k).toNat = (mem 1 0 - (k + 1)).toNat + 1 by omega]
            rw [noneAt, if_neg (by omega), show (k + 1).toNat = k.toNat + 1 by omega]
        · refine ok_iload_n F dX8_lowestNone_21 1 rfl ?_
          refine ok_iret F G dX8_lowestNone_22 ?_
          refine ⟨?_, rfl⟩
          rw [hI_2.2.2, show (mem 1 0 - k).toNat = (mem 1 0 - (k + 1)).toNat + 1 by omega]
          rw [noneAt, if_pos (by omega), show ((k.toNat : Nat) : Int) = k by omega]
  refine ok_lvp [1, 0] (lv' := [(0, pR 0), (1, pI 0)]) rfl ?_
  refine hL_2 _ 0 ?_ rfl
  exact ⟨by omega, by omega, by rw [show mem 1 0 - 0 = mem 1 0 by omega]; rfl⟩
