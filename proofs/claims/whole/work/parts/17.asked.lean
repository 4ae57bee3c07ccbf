/-! the reference: what is asked of change -/
/-- what a question leaves as it was -/
def Keep (mem mv : Mem) : Prop := mv 1 = mem 1 ∧ mv 3 = mem 3 ∧ mv 4 = mem 4 ∧ mv 5 = mem 5 ∧ mv 6 = mem 6 ∧ mv 0 5 = mem 0 5 ∧ mv 0 7 = mem 0 7 ∧ (∀ a, 20 ≤ a ∨ a = 2 ∨ a = 7 → mv a = mem a) ∧ mv 0 10 = mem 0 10
theorem Keep.rf (mem : Mem) : Keep mem mem := ⟨rfl, rfl, rfl, rfl, rfl, rfl, rfl, fun _ _ => rfl, rfl⟩
theorem Keep.trans {a b c : Mem} (h : Keep a b) (g : Keep b c) : Keep a c := ⟨g.1.trans h.1, g.2.1.trans h.2.1, g.2.2.1.trans h.2.2.1, g.2.2.2.1.trans h.2.2.2.1, g.2.2.2.2.1.trans h.2.2.2.2.1, g.2.2.2.2.2.1.trans h.2.2.2.2.2.1, g.2.2.2.2.2.2.1.trans h.2.2.2.2.2.2.1, fun q hq => (g.2.2.2.2.2.2.2.1 q hq).trans (h.2.2.2.2.2.2.2.1 q hq), g.2.2.2.2.2.2.2.2.trans h.2.2.2.2.2.2.2.2⟩
theorem Keep.f3 {mem mv : Mem} (h : ∀ a, a ≠ 8 → a ≠ 9 → a ≠ 11 → mv a = mem a) : Keep mem mv := ⟨h 1 (by decide) (by decide) (by decide), h 3 (by decide) (by decide) (by decide), h 4 (by decide) (by decide) (by decide), h 5 (by decide) (by decide) (by decide), h 6 (by decide) (by decide) (by decide), by rw [h 0 (by decide) (by decide) (by decide)], by rw [h 0 (by decide) (by decide) (by decide)], fun q hq => h q (by omega) (by omega) (by omega), by rw [h 0 (by decide) (by decide) (by decide)]⟩
theorem Keep.f2 {mem mv : Mem} (h : ∀ a, a ≠ 8 → a ≠ 9 → mv a = mem a) : Keep mem mv := Keep.f3 fun a h1 h2 _ => h a h1 h2
/-- what change() answers: of so many kinds, of a stock -/
def chgF (v c : Nat → Nat) (n a : Nat) : Int := if fewT v c n a < 1000000 then fewT v c n a else -2
/-- amounts to 2500 for which there is none -/
def gapsF (v c : Nat → Nat) (n : Nat) : Int := sumN (fun a => if fewT v c n a < 1000000 then 0 else 1) 2501
def gapAt (f : Nat → Bool) : Nat → Nat → Int
  | 0, _ => -2
  | n + 1, a => if f a = true then (a : Int) else gapAt f n (a + 1)
/-- the most of f below n, and where first: only what is below a million counts -/
def mostF (f : Nat → Int) : Nat → Int × Int
  | 0 => (0, 0)
  | n + 1 => if f n < 1000000 ∧ (mostF f n).1 < f n then (f n, (n : Int)) else mostF f n
theorem mostF_s (f : Nat → Int) {k : Int} (h : 0 ≤ k) : mostF f (k + 1).toNat = if f k.toNat < 1000000 ∧ (mostF f k.toNat).1 < f k.toNat then (f k.toNat, k) else mostF f k.toNat := by
  rw [show (k + 1).toNat = k.toNat + 1 by omega]
  show (if f k.toNat < 1000000 ∧ (mostF f k.toNat).1 < f k.toNat then (f k.toNat, ((k.toNat : Nat) : Int)) else mostF f k.toNat) = _
  rw [show ((k.toNat : Nat) : Int) = k by omega]
theorem mostF_bd {f : Nat → Int} (hf : ∀ a, 0 ≤ f a) : ∀ n, 0 ≤ (mostF f n).1 ∧ (mostF f n).1 ≤ 1000000
  | 0 => by simp [mostF]
  | n + 1 => by
    unfold mostF
    have h1 := mostF_bd hf n
    have h2 := hf n
    split
    · next h => exact ⟨h2, by omega⟩
    · exact h1
theorem dX8_change_0 : decode cX8_change 0 = .ok (.iload_n 1, 1) := by decide +kernel
theorem dX8_change_1 : decode cX8_change 1 = .ok (.invokestatic 307, 3) := by decide +kernel
theorem dX8_change_4 : decode cX8_change 4 = .ok (.ifCond .ne 5, 3) := by decide +kernel
theorem dX8_change_7 : decode cX8_change 7 = .ok (.iconst (-1), 1) := by decide +kernel
theorem dX8_change_8 : decode cX8_change 8 = .ok (.ireturn, 1) := by decide +kernel
theorem dX8_change_9 : decode cX8_change 9 = .ok (.aload_n 0, 1) := by decide +kernel
theorem dX8_change_10 : decode cX8_change 10 = .ok (.aload_n 0, 1) := by decide +kernel
theorem dX8_change_11 : decode cX8_change 11 = .ok (.getfield 9, 3) := by decide +kernel
theorem dX8_change_14 : decode cX8_change 14 = .ok (.bipush 11, 2) := by decide +kernel
theorem dX8_change_16 : decode cX8_change 16 = .ok (.aload_n 0, 1) := by decide +kernel
theorem dX8_change_17 : decode cX8_change 17 = .ok (.getfield 9, 3) := by decide +kernel
theorem dX8_change_20 : decode cX8_change 20 = .ok (.iconst 0, 1) := by decide +kernel
theorem dX8_change_21 : decode cX8_change 21 = .ok (.iaload, 1) := by decide +kernel
theorem dX8_change_22 : decode cX8_change 22 = .ok (.iload_n 1, 1) := by decide +kernel
theorem dX8_change_23 : decode cX8_change 23 = .ok (.invokevirtual 235, 3) := by decide +kernel
theorem dX8_change_26 : decode cX8_change 26 = .ok (.istore_n 2, 1) := by decide +kernel
theorem dX8_change_27 : decode cX8_change 27 = .ok (.iload_n 2, 1) := by decide +kernel
theorem dX8_change_28 : decode cX8_change 28 = .ok (.iconst (-1), 1) := by decide +kernel
theorem dX8_change_29 : decode cX8_change 29 = .ok (.if_icmp .ne 8, 3) := by decide +kernel
theorem dX8_change_32 : decode cX8_change 32 = .ok (.bipush (-2), 2) := by decide +kernel
theorem dX8_change_34 : decode cX8_change 34 = .ok (.goto 4, 3) := by decide +kernel
theorem dX8_change_37 : decode cX8_change 37 = .ok (.iload_n 2, 1) := by decide +kernel
theorem dX8_change_38 : decode cX8_change 38 = .ok (.ireturn, 1) := by decide +kernel
set_option maxHeartbeats 4000000 in
set_option maxRecDepth 100000 in
theorem m_X8_change (l : Launch) (a : Int) (mem : Mem) (ha : i32 a) (hN : 0 ≤ mem 1 0 ∧ mem 1 0 ≤ 8) (hVl : ∀ i : Nat, (i : Int) < mem 1 0 → 1 ≤ mem 1 (3 + i) ∧ mem 1 (3 + i) ≤ 500) (hTl : ∀ k : Nat, k < 8 → 0 ≤ mem 1 (11 + k) ∧ mem 1 (11 + k) ≤ 99) : Ret shp l yX8_change cX8_change 3 (some .int) 4 [pR 0, pI a] mem (fun rv mv => ∃ z, rv = some (pI z) ∧ Keep mem mv ∧ z = if 0 ≤ a ∧ a ≤ 2500 then chgF (fun i => (mem 1 (3 + i)).toNat) (fun i => (mem 1 (11 + i)).toNat) (mem 1 0).toNat a.toNat else -1) := by
  refine ret_of (by decide +kernel) (Nat.le_of_ble_eq_true rfl) (fun X hX F G => ?_)
  show Ok shp X 3 0 [(0, pR 0), (1, pI a)] [] mem
  refine ok_iload_n F dX8_change_0 1 rfl ?_
  refine ok_calls F [pI a] dX8_change_1 kM_X8_isAmount kS_X8_isAmount kL_X8_307 rfl (by decide) (Nat.le_of_ble_eq_true rfl) rfl (m_X8_isAmount _ a mem (by omega)) ?_
  rintro _ _ ⟨rfl, rfl⟩
  refine ok_if_ne F 9 dX8_change_4 (by decide) (by omega) (fun c_1 => ?_) (fun c_1 => ?_)
  · refine ok_aload_n F dX8_change_9 0 rfl ?_
    refine ok_aload_n F dX8_change_10 0 rfl ?_
    refine ok_getr F dX8_change_11 kF_X8_9 sh_0 rfl ?_
    refine ok_bipush F dX8_change_14 rfl ?_
    refine ok_aload_n F dX8_change_16 0 rfl ?_
    refine ok_getr F dX8_change_17 kF_X8_9 sh_0 rfl ?_
    refine ok_iconst F dX8_change_20 ?_
    refine ok_iald (v := mem 1 0) F dX8_change_21 sh_1 (by first | decide | assumption) (by omega) (by omega) rfl ?_
    refine ok_iload_n F dX8_change_22 1 rfl ?_
    refine ok_callv F [pR 1, pI 11, pI (mem 1 0), pI a] dX8_change_23 kM_X8_changes kI_X8_changes kV_X8_changes kL_X8_235 (ci := 8) rfl sh_0 rfl (by decide) (Nat.le_of_ble_eq_true rfl) rfl (m_X8_changes _ 1 11 (mem 1 0) a mem (459) (sh_1) (by decide) (by decide) (by decide) (by omega) (by omega) (by omega) (fun i hi => hVl i (by omega)) (fun i hi => ⟨(hTl i (by omega)).1, Int.le_trans (hTl i (by omega)).2 (by decide)⟩) (by decide)) ?_
    rintro _ m_3 ⟨z_2, rfl, r_4⟩
    obtain ⟨hfr, hch0⟩ := id r_4
    have hch : (fewT (fun i => (mem 1 (3 + i)).toNat) (fun i => (mem 1 (11 + i)).toNat) (mem 1 0).toNat a.toNat = 1000000 ∧ z_2 = -1 ∨ fewT (fun i => (mem 1 (3 + i)).toNat) (fun i => (mem 1 (11 + i)).toNat) (mem 1 0).toNat a.toNat < 1000000 ∧ z_2 = fewT (fun i => (mem 1 (3 + i)).toNat) (fun i => (mem 1 (11 + i)).toNat) (mem 1 0).toNat a.toNat ∧ ∀ j : Nat, j < 8 → m_3 11 j = takR (fun i => (mem 1 (3 + i)).toNat) (fun i => (mem 1 (11 + i)).toNat) (mem 1 0).toNat a.toNat j) := hch0
    have hb := fewT_bd (fun i => (mem 1 (3 + i)).toNat) (fun i => (mem 1 (11 + i)).toNat) (mem 1 0).toNat a.toNat
    refine ok_istore_n (lv' := [(2, pI z_2), (0, pR 0), (1, pI a)]) F dX8_change_26 (by decide) rfl ?_
    refine ok_iload_n F dX8_change_27 0 rfl ?_
    refine ok_iconst F dX8_change_28 ?_
    refine ok_icmp_ne F 37 dX8_change_29 (by decide) (by omega) (by omega) (fun c_5 => ?_) (fun c_5 => ?_)
    · refine ok_iload_n F dX8_change_37 0 rfl ?_
      refine ok_iret F G dX8_change_38 ?_
      exact ⟨_, rfl, Keep.f3 hfr, by rw [if_pos (by omega), chgF]; omega⟩
    · refine ok_bipush F dX8_change_32 rfl ?_
      refine ok_goto F 38 dX8_change_34 (by decide) ?_
      refine ok_iret F G dX8_change_38 ?_
      exact ⟨_, rfl, Keep.f3 hfr, by rw [if_pos (by omega), chgF]; omega⟩
  · refine ok_iconst F dX8_change_7 ?_
    refine ok_iret F G dX8_change_8 ?_
    exact ⟨_, rfl, Keep.rf _, by rw [if_neg (by omega)]⟩
theorem dX8_piece_0 : decode cX8_piece 0 = .ok (.iload_n 1, 1) := by decide +kernel
theorem dX8_piece_1 : decode cX8_piece 1 = .ok (.invokestatic 307, 3) := by decide +kernel
theorem dX8_piece_4 : decode cX8_piece 4 = .ok (.ifCond .eq 11, 3) := by decide +kernel
theorem dX8_piece_7 : decode cX8_piece 7 = .ok (.aload_n 0, 1) := by decide +kernel
theorem dX8_piece_8 : decode cX8_piece 8 = .ok (.iload_n 2, 1) := by decide +kernel
theorem dX8_piece_9 : decode cX8_piece 9 = .ok (.invokevirtual 215, 3) := by decide +kernel
theorem dX8_piece_12 : decode cX8_piece 12 = .ok (.ifCond .ne 5, 3) := by decide +kernel
theorem dX8_piece_15 : decode cX8_piece 15 = .ok (.iconst (-1), 1) := by decide +kernel
theorem dX8_piece_16 : decode cX8_piece 16 = .ok (.ireturn, 1) := by decide +kernel
theorem dX8_piece_17 : decode cX8_piece 17 = .ok (.aload_n 0, 1) := by decide +kernel
theorem dX8_piece_18 : decode cX8_piece 18 = .ok (.aload_n 0, 1) := by decide +kernel
theorem dX8_piece_19 : decode cX8_piece 19 = .ok (.getfield 9, 3) := by decide +kernel
theorem dX8_piece_22 : decode cX8_piece 22 = .ok (.bipush 11, 2) := by decide +kernel
theorem dX8_piece_24 : decode cX8_piece 24 = .ok (.aload_n 0, 1) := by decide +kernel
theorem dX8_piece_25 : decode cX8_piece 25 = .ok (.getfield 9, 3) := by decide +kernel
theorem dX8_piece_28 : decode cX8_piece 28 = .ok (.iconst 0, 1) := by decide +kernel
theorem dX8_piece_29 : decode cX8_piece 29 = .ok (.iaload, 1) := by decide +kernel
theorem dX8_piece_30 : decode cX8_piece 30 = .ok (.iload_n 1, 1) := by decide +kernel
theorem dX8_piece_31 : decode cX8_piece 31 = .ok (.invokevirtual 235, 3) := by decide +kernel
theorem dX8_piece_34 : decode cX8_piece 34 = .ok (.istore_n 3, 1) := by decide +kernel
theorem dX8_piece_35 : decode cX8_piece 35 = .ok (.iload_n 3, 1) := by decide +kernel
theorem dX8_piece_36 : decode cX8_piece 36 = .ok (.iconst (-1), 1) := by decide +kernel
theorem dX8_piece_37 : decode cX8_piece 37 = .ok (.if_icmp .ne 8, 3) := by decide +kernel
theorem dX8_piece_40 : decode cX8_piece 40 = .ok (.bipush (-2), 2) := by decide +kernel
theorem dX8_piece_42 : decode cX8_piece 42 = .ok (.goto 9, 3) := by decide +kernel
theorem dX8_piece_45 : decode cX8_piece 45 = .ok (.aload_n 0, 1) := by decide +kernel
theorem dX8_piece_46 : decode cX8_piece 46 = .ok (.getfield 42, 3) := by decide +kernel
theorem dX8_piece_49 : decode cX8_piece 49 = .ok (.iload_n 2, 1) := by decide +kernel
theorem dX8_piece_50 : decode cX8_piece 50 = .ok (.iaload, 1) := by decide +kernel
theorem dX8_piece_51 : decode cX8_piece 51 = .ok (.ireturn, 1) := by decide +kernel
set_option maxHeartbeats 4000000 in
set_option maxRecDepth 100000 in
theorem m_X8_piece (l : Launch) (a : Int) (k : Int) (mem : Mem) (ha : i32 a) (hk : i32 k) (hN : 0 ≤ mem 1 0 ∧ mem 1 0 ≤ 8) (hVl : ∀ i : Nat, (i : Int) < mem 1 0 → 1 ≤ mem 1 (3 + i) ∧ mem 1 (3 + i) ≤ 500) (hTl : ∀ k : Nat, k < 8 → 0 ≤ mem 1 (11 + k) ∧ mem 1 (11 + k) ≤ 99) : Ret shp l yX8_piece cX8_piece 4 (some .int) 4 [pR 0, pI a, pI k] mem (fun rv mv => ∃ z, rv = some (pI z) ∧ Keep mem mv ∧ z = if (0 ≤ a ∧ a ≤ 2500) ∧ 0 ≤ k ∧ k < mem 1 0 then (if fewT (fun i => (mem 1 (3 + i)).toNat) (fun i => (mem 1 (11 + i)).toNat) (mem 1 0).toNat a.toNat < 1000000 then (takR (fun i => (mem 1 (3 + i)).toNat) (fun i => (mem 1 (11 + i)).toNat) (mem 1 0).toNat a.toNat k.toNat : Int) else -2) else -1) := by
  refine ret_of (by decide +kernel) (Nat.le_of_ble_eq_true rfl) (fun X hX F G => ?_)
  show Ok shp X 4 0 [(0, pR 0), (1, pI a), (2, pI k)] [] mem
  refine ok_iload_n F dX8_piece_0 1 rfl ?_
  refine ok_calls F [pI a] dX8_piece_1 kM_X8_isAmount kS_X8_isAmount kL_X8_307 rfl (by decide) (Nat.le_of_ble_eq_true rfl) rfl (m_X8_isAmount _ a mem (by omega)) ?_
  rintro _ _ ⟨rfl, rfl⟩
  refine ok_if_eq F 15 dX8_piece_4 (by decide) (by omega) (fun c_1 => ?_) (fun c_1 => ?_)
  · refine ok_iconst F dX8_piece_15 ?_
    refine ok_iret F G dX8_piece_16 ?_
    exact ⟨_, rfl, Keep.rf _, by rw [if_neg (by omega)]⟩
  · refine ok_aload_n F dX8_piece_7 0 rfl ?_
    refine ok_iload_n F dX8_piece_8 2 rfl ?_
    refine ok_callv F [pI k] dX8_piece_9 kM_X8_isKind kI_X8_isKind kV_X8_isKind kL_X8_215 (ci := 8) rfl sh_0 rfl (by decide) (Nat.le_of_ble_eq_true rfl) rfl (m_X8_isKind _ k mem (by omega) (by omega)) ?_
    rintro _ _ ⟨rfl, rfl⟩
    refine ok_if_ne F 17 dX8_piece_12 (by decide) (by omega) (fun c_2 => ?_) (fun c_2 => ?_)
    · refine ok_aload_n F dX8_piece_17 0 rfl ?_
      refine ok_aload_n F dX8_piece_18 0 rfl ?_
      refine ok_getr F dX8_piece_19 kF_X8_9 sh_0 rfl ?_
      refine ok_bipush F dX8_piece_22 rfl ?_
      refine ok_aload_n F dX8_piece_24 0 rfl ?_
      refine ok_getr F dX8_piece_25 kF_X8_9 sh_0 rfl ?_
      refine ok_iconst F dX8_piece_28 ?_
      refine ok_iald (v := mem 1 0) F dX8_piece_29 sh_1 (by first | decide | assumption) (by omega) (by omega) rfl ?_
      refine ok_iload_n F dX8_piece_30 1 rfl ?_
      refine ok_callv F [pR 1, pI 11, pI (mem 1 0), pI a] dX8_piece_31 kM_X8_changes kI_X8_changes kV_X8_changes kL_X8_235 (ci := 8) rfl sh_0 rfl (by decide) (Nat.le_of_ble_eq_true rfl) rfl (m_X8_changes _ 1 11 (mem 1 0) a mem (459) (sh_1) (by decide) (by decide) (by decide) (by omega) (by omega) (by omega) (fun i hi => hVl i (by omega)) (fun i hi => ⟨(hTl i (by omega)).1, Int.le_trans (hTl i (by omega)).2 (by decide)⟩) (by decide)) ?_
      rintro _ m_4 ⟨z_3, rfl, r_5⟩
      obtain ⟨hfr, hch0⟩ := id r_5
      have hch : (fewT (fun i => (mem 1 (3 + i)).toNat) (fun i => (mem 1 (11 + i)).toNat) (mem 1 0).toNat a.toNat = 1000000 ∧ z_3 = -1 ∨ fewT (fun i => (mem 1 (3 + i)).toNat) (fun i => (mem 1 (11 + i)).toNat) (mem 1 0).toNat a.toNat < 1000000 ∧ z_3 = fewT (fun i => (mem 1 (3 + i)).toNat) (fun i => (mem 1 (11 + i)).toNat) (mem 1 0).toNat a.toNat ∧ ∀ j : Nat, j < 8 → m_4 11 j = takR (fun i => (mem 1 (3 + i)).toNat) (fun i => (mem 1 (11 + i)).toNat) (mem 1 0).toNat a.toNat j) := hch0
      have hb := fewT_bd (fun i => (mem 1 (3 + i)).toNat) (fun i => (mem 1 (11 + i)).toNat) (mem 1 0).toNat a.toNat
      refine ok_istore_n (lv' := [(3, pI z_3), (0, pR 0), (1, pI a), (2, pI k)]) F dX8_piece_34 (by decide) rfl ?_
      refine ok_iload_n F dX8_piece_35 0 rfl ?_
      refine ok_iconst F dX8_piece_36 ?_
      refine ok_icmp_ne F 45 dX8_piece_37 (by decide) (by omega) (by omega) (fun c_6 => ?_) (fun c_6 => ?_)
      · have hk8 := fun h => (hch.resolve_left h).2.2 k.toNat (by omega)
        refine ok_aload_n F dX8_piece_45 1 rfl ?_
        refine ok_getr F dX8_piece_46 kF_X8_42 sh_0 rfl ?_
        refine ok_iload_n F dX8_piece_49 3 rfl ?_
        refine ok_iald (v := m_4 11 k.toNat) F dX8_piece_50 sh_11 (by first | decide | assumption) (by omega) (by omega) rfl ?_
        refine ok_iret F G dX8_piece_51 ?_
        refine ⟨_, rfl, Keep.f3 hfr, ?_⟩
        rw [if_pos (by omega)]
        first | (rw [if_neg (by omega)]; done) | (rw [if_pos (by omega)]; exact hk8 (by omega))
      · refine ok_bipush F dX8_piece_40 rfl ?_
        refine ok_goto F 51 dX8_piece_42 (by decide) ?_
        refine ok_iret F G dX8_piece_51 ?_
        refine ⟨_, rfl, Keep.f3 hfr, ?_⟩
        rw [if_pos (by omega)]
        first | (rw [if_neg (by omega)]; done) | (rw [if_pos (by omega)]; exact hk8 (by omega))
    · refine ok_iconst F dX8_piece_15 ?_
      refine ok_iret F G dX8_piece_16 ?_
      exact ⟨_, rfl, Keep.rf _, by rw [if_neg (by omega)]⟩
theorem dX8_pays_0 : decode cX8_pays 0 = .ok (.iload_n 1, 1) := by decide +kernel
theorem dX8_pays_1 : decode cX8_pays 1 = .ok (.i2l, 1) := by decide +kernel
theorem dX8_pays_2 : decode cX8_pays 2 = .ok (.lconst 1, 1) := by decide +kernel
theorem dX8_pays_3 : decode cX8_pays 3 = .ok (.ldc2_w 230, 3) := by decide +kernel
theorem dX8_pays_6 : decode cX8_pays 6 = .ok (.invokestatic 100, 3) := by decide +kernel
theorem dX8_pays_9 : decode cX8_pays 9 = .ok (.ifCond .eq 16, 3) := by decide +kernel
theorem dX8_pays_12 : decode cX8_pays 12 = .ok (.iload_n 2, 1) := by decide +kernel
theorem dX8_pays_13 : decode cX8_pays 13 = .ok (.iconst (-1), 1) := by decide +kernel
theorem dX8_pays_14 : decode cX8_pays 14 = .ok (.if_icmp .eq 13, 3) := by decide +kernel
theorem dX8_pays_17 : decode cX8_pays 17 = .ok (.aload_n 0, 1) := by decide +kernel
theorem dX8_pays_18 : decode cX8_pays 18 = .ok (.iload_n 2, 1) := by decide +kernel
theorem dX8_pays_19 : decode cX8_pays 19 = .ok (.invokevirtual 215, 3) := by decide +kernel
theorem dX8_pays_22 : decode cX8_pays 22 = .ok (.ifCond .ne 5, 3) := by decide +kernel
theorem dX8_pays_25 : decode cX8_pays 25 = .ok (.iconst (-1), 1) := by decide +kernel
theorem dX8_pays_26 : decode cX8_pays 26 = .ok (.ireturn, 1) := by decide +kernel
theorem dX8_pays_27 : decode cX8_pays 27 = .ok (.aload_n 0, 1) := by decide +kernel
theorem dX8_pays_28 : decode cX8_pays 28 = .ok (.aload_n 0, 1) := by decide +kernel
theorem dX8_pays_29 : decode cX8_pays 29 = .ok (.getfield 9, 3) := by decide +kernel
theorem dX8_pays_32 : decode cX8_pays 32 = .ok (.bipush 19, 2) := by decide +kernel
theorem dX8_pays_34 : decode cX8_pays 34 = .ok (.aload_n 0, 1) := by decide +kernel
theorem dX8_pays_35 : decode cX8_pays 35 = .ok (.getfield 9, 3) := by decide +kernel
theorem dX8_pays_38 : decode cX8_pays 38 = .ok (.iconst 0, 1) := by decide +kernel
theorem dX8_pays_39 : decode cX8_pays 39 = .ok (.iaload, 1) := by decide +kernel
theorem dX8_pays_40 : decode cX8_pays 40 = .ok (.iload_n 1, 1) := by decide +kernel
theorem dX8_pays_41 : decode cX8_pays 41 = .ok (.invokevirtual 235, 3) := by decide +kernel
theorem dX8_pays_44 : decode cX8_pays 44 = .ok (.istore_n 3, 1) := by decide +kernel
theorem dX8_pays_45 : decode cX8_pays 45 = .ok (.iload_n 3, 1) := by decide +kernel
theorem dX8_pays_46 : decode cX8_pays 46 = .ok (.iconst (-1), 1) := by decide +kernel
theorem dX8_pays_47 : decode cX8_pays 47 = .ok (.if_icmp .ne 8, 3) := by decide +kernel
theorem dX8_pays_50 : decode cX8_pays 50 = .ok (.bipush (-2), 2) := by decide +kernel
theorem dX8_pays_52 : decode cX8_pays 52 = .ok (.goto 18, 3) := by decide +kernel
theorem dX8_pays_55 : decode cX8_pays 55 = .ok (.iload_n 2, 1) := by decide +kernel
theorem dX8_pays_56 : decode cX8_pays 56 = .ok (.iconst (-1), 1) := by decide +kernel
theorem dX8_pays_57 : decode cX8_pays 57 = .ok (.if_icmp .ne 7, 3) := by decide +kernel
theorem dX8_pays_60 : decode cX8_pays 60 = .ok (.iload_n 3, 1) := by decide +kernel
theorem dX8_pays_61 : decode cX8_pays 61 = .ok (.goto 9, 3) := by decide +kernel
theorem dX8_pays_64 : decode cX8_pays 64 = .ok (.aload_n 0, 1) := by decide +kernel
theorem dX8_pays_65 : decode cX8_pays 65 = .ok (.getfield 42, 3) := by decide +kernel
theorem dX8_pays_68 : decode cX8_pays 68 = .ok (.iload_n 2, 1) := by decide +kernel
theorem dX8_pays_69 : decode cX8_pays 69 = .ok (.iaload, 1) := by decide +kernel
theorem dX8_pays_70 : decode cX8_pays 70 = .ok (.ireturn, 1) := by decide +kernel
set_option maxHeartbeats 4000000 in
set_option maxRecDepth 100000 in
theorem m_X8_pays (l : Launch) (a : Int) (k : Int) (mem : Mem) (ha : i32 a) (hk : i32 k) (hN : 0 ≤ mem 1 0 ∧ mem 1 0 ≤ 8) (hVl : ∀ i : Nat, (i : Int) < mem 1 0 → 1 ≤ mem 1 (3 + i) ∧ mem 1 (3 + i) ≤ 500) (hPu : ∀ k : Nat, k < 8 → 0 ≤ mem 1 (19 + k) ∧ mem 1 (19 + k) ≤ 99) : Ret shp l yX8_pays cX8_pays 4 (some .int) 4 [pR 0, pI a, pI k] mem (fun rv mv => ∃ z, rv = some (pI z) ∧ Keep mem mv ∧ z = if (1 ≤ a ∧ a ≤ 1000) ∧ (k = -1 ∨ 0 ≤ k ∧ k < mem 1 0) then (if fewT (fun i => (mem 1 (3 + i)).toNat) (fun i => (mem 1 (19 + i)).toNat) (mem 1 0).toNat a.toNat < 1000000 then (if k = -1 then fewT (fun i => (mem 1 (3 + i)).toNat) (fun i => (mem 1 (19 + i)).toNat) (mem 1 0).toNat a.toNat else (takR (fun i => (mem 1 (3 + i)).toNat) (fun i => (mem 1 (19 + i)).toNat) (mem 1 0).toNat a.toNat k.toNat : Int)) else -2) else -1) := by
  refine ret_of (by decide +kernel) (Nat.le_of_ble_eq_true rfl) (fun X hX F G => ?_)
  show Ok shp X 4 0 [(0, pR 0), (1, pI a), (2, pI k)] [] mem
  refine ok_iload_n F dX8_pays_0 1 rfl ?_
  refine ok_i2l F dX8_pays_1 (by omega) ?_
  refine ok_lconst (z := 1) F dX8_pays_2 rfl ?_
  refine ok_ldc2 (n := 1000) F dX8_pays_3 kJ_X8_230 rfl ?_
  refine ok_calls F [pL a, pL 1, pL 1000] dX8_pays_6 kM_X8_in kS_X8_in kL_X8_100 rfl (by decide) (Nat.le_of_ble_eq_true rfl) rfl (m_X8_in _ a 1 1000 mem (by omega) (by omega) (by omega)) ?_
  rintro _ _ ⟨rfl, rfl⟩
  refine ok_if_eq F 25 dX8_pays_9 (by decide) (by omega) (fun c_1 => ?_) (fun c_1 => ?_)
  · refine ok_iconst F dX8_pays_25 ?_
    refine ok_iret F G dX8_pays_26 ?_
    exact ⟨_, rfl, Keep.rf _, by rw [if_neg (by omega)]⟩
  · refine ok_iload_n F dX8_pays_12 2 rfl ?_
    refine ok_iconst F dX8_pays_13 ?_
    refine ok_icmp_eq F 27 dX8_pays_14 (by decide) (by omega) (by omega) (fun c_2 => ?_) (fun c_2 => ?_)
    · refine ok_aload_n F dX8_pays_27 0 rfl ?_
      refine ok_aload_n F dX8_pays_28 0 rfl ?_
      refine ok_getr F dX8_pays_29 kF_X8_9 sh_0 rfl ?_
      refine ok_bipush F dX8_pays_32 rfl ?_
      refine ok_aload_n F dX8_pays_34 0 rfl ?_
      refine ok_getr F dX8_pays_35 kF_X8_9 sh_0 rfl ?_
      refine ok_iconst F dX8_pays_38 ?_
      refine ok_iald (v := mem 1 0) F dX8_pays_39 sh_1 (by first | decide | assumption) (by omega) (by omega) rfl ?_
      refine ok_iload_n F dX8_pays_40 1 rfl ?_
      refine ok_callv F [pR 1, pI 19, pI (mem 1 0), pI a] dX8_pays_41 kM_X8_changes kI_X8_changes kV_X8_changes kL_X8_235 (ci := 8) rfl sh_0 rfl (by decide) (Nat.le_of_ble_eq_true rfl) rfl (m_X8_changes _ 1 19 (mem 1 0) a mem (459) (sh_1) (by decide) (by decide) (by decide) (by omega) (by omega) (by omega) (fun i hi => hVl i (by omega)) (fun i hi => ⟨(hPu i (by omega)).1, Int.le_trans (hPu i (by omega)).2 (by decide)⟩) (by decide)) ?_
      rintro _ m_4 ⟨z_3, rfl, r_5⟩
      obtain ⟨hfr, hch0⟩ := id r_5
      have hch : (fewT (fun i => (mem 1 (3 + i)).toNat) (fun i => (mem 1 (19 + i)).toNat) (mem 1 0).toNat a.toNat = 1000000 ∧ z_3 = -1 ∨ fewT (fun i => (mem 1 (3 + i)).toNat) (fun i => (mem 1 (19 + i)).toNat) (mem 1 0).toNat a.toNat < 1000000 ∧ z_3 = fewT (fun i => (mem 1 (3 + i)).toNat) (fun i => (mem 1 (19 + i)).toNat) (mem 1 0).toNat a.toNat ∧ ∀ j : Nat, j < 8 → m_4 11 j = takR (fun i => (mem 1 (3 + i)).toNat) (fun i => (mem 1 (19 + i)).toNat) (mem 1 0).toNat a.toNat j) := hch0
      have hb := fewT_bd (fun i => (mem 1 (3 + i)).toNat) (fun i => (mem 1 (19 + i)).toNat) (mem 1 0).toNat a.toNat
      refine ok_istore_n (lv' := [(3, pI z_3), (0, pR 0), (1, pI a), (2, pI k)]) F dX8_pays_44 (by decide) rfl ?_
      refine ok_iload_n F dX8_pays_45 0 rfl ?_
      refine ok_iconst F dX8_pays_46 ?_
      refine ok_icmp_ne F 55 dX8_pays_47 (by decide) (by omega) (by omega) (fun c_6 => ?_) (fun c_6 => ?_)
      · refine ok_iload_n F dX8_pays_55 3 rfl ?_
        refine ok_iconst F dX8_pays_56 ?_
        refine ok_icmp_ne F 64 dX8_pays_57 (by decide) (by omega) (by omega) (fun c_7 => ?_) (fun c_7 => ?_)
        · have hk8 := fun h => (hch.resolve_left h).2.2 k.toNat (by omega)
          refine ok_aload_n F dX8_pays_64 1 rfl ?_
          refine ok_getr F dX8_pays_65 kF_X8_42 sh_0 rfl ?_
          refine ok_iload_n F dX8_pays_68 3 rfl ?_
          refine ok_iald (v := m_4 11 k.toNat) F dX8_pays_69 sh_11 (by first | decide | assumption) (by omega) (by omega) rfl ?_
          refine ok_iret F G dX8_pays_70 ?_
          refine ⟨_, rfl, Keep.f3 hfr, ?_⟩
          rw [if_pos (by omega)]
          first | (rw [if_neg (by omega)]; done) | (rw [if_pos (by omega), if_pos (by omega)]; omega) | (rw [if_pos (by omega), if_neg (by omega)]; exact hk8 (by omega))
        · refine ok_iload_n F dX8_pays_60 0 rfl ?_
          refine ok_goto F 70 dX8_pays_61 (by decide) ?_
          refine ok_iret F G dX8_pays_70 ?_
          refine ⟨_, rfl, Keep.f3 hfr, ?_⟩
          rw [if_pos (by omega)]
          first | (rw [if_neg (by omega)]; done) | (rw [if_pos (by omega), if_pos (by omega)]; omega) | (rw [if_pos (by omega), if_neg (by omega)]; exact hk8 (by omega))
      · refine ok_bipush F dX8_pays_50 rfl ?_
        refine ok_goto F 70 dX8_pays_52 (by decide) ?_
        refine ok_iret F G dX8_pays_70 ?_
        refine ⟨_, rfl, Keep.f3 hfr, ?_⟩
        rw [if_pos (by omega)]
        first | (rw [if_neg (by omega)]; done) | (rw [if_pos (by omega), if_pos (by omega)]; omega) | (rw [if_pos (by omega), if_neg (by omega)]; exact hk8 (by omega))
    · refine ok_aload_n F dX8_pays_17 0 rfl ?_
      refine ok_iload_n F dX8_pays_18 2 rfl ?_
      refine ok_callv F [pI k] dX8_pays_19 kM_X8_isKind kI_X8_isKind kV_X8_isKind kL_X8_215 (ci := 8) rfl sh_0 rfl (by decide) (Nat.le_of_ble_eq_true rfl) rfl (m_X8_isKind _ k mem (by omega) (by omega)) ?_
      rintro _ _ ⟨rfl, rfl⟩
      refine ok_if_ne F 27 dX8_pays_22 (by decide) (by omega) (fun c_8 => ?_) (fun c_8 => ?_)
      · refine ok_aload_n F dX8_pays_27 0 rfl ?_
        refine ok_aload_n F dX8_pays_28 0 rfl ?_
        refine ok_getr F dX8_pays_29 kF_X8_9 sh_0 rfl ?_
        refine ok_bipush F dX8_pays_32 rfl ?_
        refine ok_aload_n F dX8_pays_34 0 rfl ?_
        refine ok_getr F dX8_pays_35 kF_X8_9 sh_0 rfl ?_
        refine ok_iconst F dX8_pays_38 ?_
        refine ok_iald (v := mem 1 0) F dX8_pays_39 sh_1 (by first | decide | assumption) (by omega) (by omega) rfl ?_
        refine ok_iload_n F dX8_pays_40 1 rfl ?_
        refine ok_callv F [pR 1, pI 19, pI (mem 1 0), pI a] dX8_pays_41 kM_X8_changes kI_X8_changes kV_X8_changes kL_X8_235 (ci := 8) rfl sh_0 rfl (by decide) (Nat.le_of_ble_eq_true rfl) rfl (m_X8_changes _ 1 19 (mem 1 0) a mem (459) (sh_1) (by decide) (by decide) (by decide) (by omega) (by omega) (by omega) (fun i hi => hVl i (by omega)) (fun i hi => ⟨(hPu i (by omega)).1, Int.le_trans (hPu i (by omega)).2 (by decide)⟩) (by decide)) ?_
        rintro _ m_10 ⟨z_9, rfl, r_11⟩
        obtain ⟨hfr, hch0⟩ := id r_11
        have hch : (fewT (fun i => (mem 1 (3 + i)).toNat) (fun i => (mem 1 (19 + i)).toNat) (mem 1 0).toNat a.toNat = 1000000 ∧ z_9 = -1 ∨ fewT (fun i => (mem 1 (3 + i)).toNat) (fun i => (mem 1 (19 + i)).toNat) (mem 1 0).toNat a.toNat < 1000000 ∧ z_9 = fewT (fun i => (mem 1 (3 + i)).toNat) (fun i => (mem 1 (19 + i)).toNat) (mem 1 0).toNat a.toNat ∧ ∀ j : Nat, j < 8 → m_10 11 j = takR (fun i => (mem 1 (3 + i)).toNat) (fun i => (mem 1 (19 + i)).toNat) (mem 1 0).toNat a.toNat j) := hch0
        have hb := fewT_bd (fun i => (mem 1 (3 + i)).toNat) (fun i => (mem 1 (19 + i)).toNat) (mem 1 0).toNat a.toNat
        refine ok_istore_n (lv' := [(3, pI z_9), (0, pR 0), (1, pI a), (2, pI k)]) F dX8_pays_44 (by decide) rfl ?_
        refine ok_iload_n F dX8_pays_45 0 rfl ?_
        refine ok_iconst F dX8_pays_46 ?_
        refine ok_icmp_ne F 55 dX8_pays_47 (by decide) (by omega) (by omega) (fun c_12 => ?_) (fun c_12 => ?_)
        · refine ok_iload_n F dX8_pays_55 3 rfl ?_
          refine ok_iconst F dX8_pays_56 ?_
          refine ok_icmp_ne F 64 dX8_pays_57 (by decide) (by omega) (by omega) (fun c_13 => ?_) (fun c_13 => ?_)
          · have hk8 := fun h => (hch.resolve_left h).2.2 k.toNat (by omega)
            refine ok_aload_n F dX8_pays_64 1 rfl ?_
            refine ok_getr F dX8_pays_65 kF_X8_42 sh_0 rfl ?_
            refine ok_iload_n F dX8_pays_68 3 rfl ?_
            refine ok_iald (v := m_10 11 k.toNat) F dX8_pays_69 sh_11 (by first | decide | assumption) (by omega) (by omega) rfl ?_
            refine ok_iret F G dX8_pays_70 ?_
            refine ⟨_, rfl, Keep.f3 hfr, ?_⟩
            rw [if_pos (by omega)]
            first | (rw [if_neg (by omega)]; done) | (rw [if_pos (by omega), if_pos (by omega)]; omega) | (rw [if_pos (by omega), if_neg (by omega)]; exact hk8 (by omega))
          · refine ok_iload_n F dX8_pays_60 0 rfl ?_
            refine ok_goto F 70 dX8_pays_61 (by decide) ?_
            refine ok_iret F G dX8_pays_70 ?_
            refine ⟨_, rfl, Keep.f3 hfr, ?_⟩
            rw [if_pos (by omega)]
            first | (rw [if_neg (by omega)]; done) | (rw [if_pos (by omega), if_pos (by omega)]; omega) | (rw [if_pos (by omega), if_neg (by omega)]; exact hk8 (by omega))
        · refine ok_bipush F dX8_pays_50 rfl ?_
          refine ok_goto F 70 dX8_pays_52 (by decide) ?_
          refine ok_iret F G dX8_pays_70 ?_
          refine ⟨_, rfl, Keep.f3 hfr, ?_⟩
          rw [if_pos (by omega)]
          first | (rw [if_neg (by omega)]; done) | (rw [if_pos (by omega), if_pos (by omega)]; omega) | (rw [if_pos (by omega), if_neg (by omega)]; exact hk8 (by omega))
      · refine ok_iconst F dX8_pays_25 ?_
        refine ok_iret F G dX8_pays_26 ?_
        exact ⟨_, rfl, Keep.rf _, by rw [if_neg (by omega)]⟩
theorem dX8_swap_0 : decode cX8_swap 0 = .ok (.aload_n 0, 1) := by decide +kernel
theorem dX8_swap_1 : decode cX8_swap 1 = .ok (.iload_n 1, 1) := by decide +kernel
theorem dX8_swap_2 : decode cX8_swap 2 = .ok (.invokevirtual 215, 3) := by decide +kernel
theorem dX8_swap_5 : decode cX8_swap 5 = .ok (.ifCond .eq 28, 3) := by decide +kernel
theorem dX8_swap_8 : decode cX8_swap 8 = .ok (.iload_n 2, 1) := by decide +kernel
theorem dX8_swap_9 : decode cX8_swap 9 = .ok (.i2l, 1) := by decide +kernel
theorem dX8_swap_10 : decode cX8_swap 10 = .ok (.lconst 1, 1) := by decide +kernel
theorem dX8_swap_11 : decode cX8_swap 11 = .ok (.ldc2_w 219, 3) := by decide +kernel
theorem dX8_swap_14 : decode cX8_swap 14 = .ok (.invokestatic 100, 3) := by decide +kernel
theorem dX8_swap_17 : decode cX8_swap 17 = .ok (.ifCond .eq 16, 3) := by decide +kernel
theorem dX8_swap_20 : decode cX8_swap 20 = .ok (.iload_n 2, 1) := by decide +kernel
theorem dX8_swap_21 : decode cX8_swap 21 = .ok (.aload_n 0, 1) := by decide +kernel
theorem dX8_swap_22 : decode cX8_swap 22 = .ok (.iload_n 1, 1) := by decide +kernel
theorem dX8_swap_23 : decode cX8_swap 23 = .ok (.invokevirtual 191, 3) := by decide +kernel
theorem dX8_swap_26 : decode cX8_swap 26 = .ok (.imul, 1) := by decide +kernel
theorem dX8_swap_27 : decode cX8_swap 27 = .ok (.sipush 2500, 3) := by decide +kernel
theorem dX8_swap_30 : decode cX8_swap 30 = .ok (.if_icmp .le 5, 3) := by decide +kernel
theorem dX8_swap_33 : decode cX8_swap 33 = .ok (.iconst (-1), 1) := by decide +kernel
theorem dX8_swap_34 : decode cX8_swap 34 = .ok (.ireturn, 1) := by decide +kernel
theorem dX8_swap_35 : decode cX8_swap 35 = .ok (.aload_n 0, 1) := by decide +kernel
theorem dX8_swap_36 : decode cX8_swap 36 = .ok (.aload_n 0, 1) := by decide +kernel
theorem dX8_swap_37 : decode cX8_swap 37 = .ok (.getfield 9, 3) := by decide +kernel
theorem dX8_swap_40 : decode cX8_swap 40 = .ok (.bipush 11, 2) := by decide +kernel
theorem dX8_swap_42 : decode cX8_swap 42 = .ok (.iload_n 1, 1) := by decide +kernel
theorem dX8_swap_43 : decode cX8_swap 43 = .ok (.iload_n 2, 1) := by decide +kernel
theorem dX8_swap_44 : decode cX8_swap 44 = .ok (.aload_n 0, 1) := by decide +kernel
theorem dX8_swap_45 : decode cX8_swap 45 = .ok (.iload_n 1, 1) := by decide +kernel
theorem dX8_swap_46 : decode cX8_swap 46 = .ok (.invokevirtual 191, 3) := by decide +kernel
theorem dX8_swap_49 : decode cX8_swap 49 = .ok (.imul, 1) := by decide +kernel
theorem dX8_swap_50 : decode cX8_swap 50 = .ok (.invokevirtual 235, 3) := by decide +kernel
theorem dX8_swap_53 : decode cX8_swap 53 = .ok (.istore_n 3, 1) := by decide +kernel
theorem dX8_swap_54 : decode cX8_swap 54 = .ok (.iload_n 3, 1) := by decide +kernel
theorem dX8_swap_55 : decode cX8_swap 55 = .ok (.iconst (-1), 1) := by decide +kernel
theorem dX8_swap_56 : decode cX8_swap 56 = .ok (.if_icmp .ne 8, 3) := by decide +kernel
theorem dX8_swap_59 : decode cX8_swap 59 = .ok (.bipush (-2), 2) := by decide +kernel
theorem dX8_swap_61 : decode cX8_swap 61 = .ok (.goto 22, 3) := by decide +kernel
theorem dX8_swap_64 : decode cX8_swap 64 = .ok (.aload_n 0, 1) := by decide +kernel
theorem dX8_swap_65 : decode cX8_swap 65 = .ok (.getfield 9, 3) := by decide +kernel
theorem dX8_swap_68 : decode cX8_swap 68 = .ok (.bipush 19, 2) := by decide +kernel
theorem dX8_swap_70 : decode cX8_swap 70 = .ok (.iload_n 1, 1) := by decide +kernel
theorem dX8_swap_71 : decode cX8_swap 71 = .ok (.iadd, 1) := by decide +kernel
theorem dX8_swap_72 : decode cX8_swap 72 = .ok (.iaload, 1) := by decide +kernel
theorem dX8_swap_73 : decode cX8_swap 73 = .ok (.iload_n 2, 1) := by decide +kernel
theorem dX8_swap_74 : decode cX8_swap 74 = .ok (.if_icmp .ge 8, 3) := by decide +kernel
theorem dX8_swap_77 : decode cX8_swap 77 = .ok (.bipush (-3), 2) := by decide +kernel
theorem dX8_swap_79 : decode cX8_swap 79 = .ok (.goto 4, 3) := by decide +kernel
theorem dX8_swap_82 : decode cX8_swap 82 = .ok (.iload_n 3, 1) := by decide +kernel
theorem dX8_swap_83 : decode cX8_swap 83 = .ok (.ireturn, 1) := by decide +kernel
set_option maxHeartbeats 4000000 in
set_option maxRecDepth 100000 in
theorem m_X8_swap (l : Launch) (k : Int) (n : Int) (mem : Mem) (hk : i32 k) (hn : i32 n) (hN : 0 ≤ mem 1 0 ∧ mem 1 0 ≤ 8) (hVl : ∀ i : Nat, (i : Int) < mem 1 0 → 1 ≤ mem 1 (3 + i) ∧ mem 1 (3 + i) ≤ 500) (hTl : ∀ k : Nat, k < 8 → 0 ≤ mem 1 (11 + k) ∧ mem 1 (11 + k) ≤ 99) (hPu : ∀ k : Nat, k < 8 → 0 ≤ mem 1 (19 + k) ∧ mem 1 (19 + k) ≤ 99) : Ret shp l yX8_swap cX8_swap 4 (some .int) 4 [pR 0, pI k, pI n] mem (fun rv mv => ∃ z, rv = some (pI z) ∧ Keep mem mv ∧ z = if (0 ≤ k ∧ k < mem 1 0) ∧ (1 ≤ n ∧ n ≤ 99) ∧ n * mem 1 (3 + k).toNat ≤ 2500 then (if fewT (fun i => (mem 1 (3 + i)).toNat) (fun i => (mem 1 (11 + i)).toNat) k.toNat (n * mem 1 (3 + k).toNat).toNat < 1000000 then (if mem 1 (19 + k).toNat < n then -3 else fewT (fun i => (mem 1 (3 + i)).toNat) (fun i => (mem 1 (11 + i)).toNat) k.toNat (n * mem 1 (3 + k).toNat).toNat) else -2) else -1) := by
  refine ret_of (by decide +kernel) (Nat.le_of_ble_eq_true rfl) (fun X hX F G => ?_)
  show Ok shp X 4 0 [(0, pR 0), (1, pI k), (2, pI n)] [] mem
  refine ok_aload_n F dX8_swap_0 0 rfl ?_
  refine ok_iload_n F dX8_swap_1 1 rfl ?_
  refine ok_callv F [pI k] dX8_swap_2 kM_X8_isKind kI_X8_isKind kV_X8_isKind kL_X8_215 (ci := 8) rfl sh_0 rfl (by decide) (Nat.le_of_ble_eq_true rfl) rfl (m_X8_isKind _ k mem (by omega) (by omega)) ?_
  rintro _ _ ⟨rfl, rfl⟩
  refine ok_if_eq F 33 dX8_swap_5 (by decide) (by omega) (fun c_1 => ?_) (fun c_1 => ?_)
  · refine ok_iconst F dX8_swap_33 ?_
    refine ok_iret F G dX8_swap_34 ?_
    exact ⟨_, rfl, Keep.rf _, by rw [if_neg (by omega)]⟩
  · refine ok_iload_n F dX8_swap_8 2 rfl ?_
    refine ok_i2l F dX8_swap_9 (by omega) ?_
    refine ok_lconst (z := 1) F dX8_swap_10 rfl ?_
    refine ok_ldc2 (n := 99) F dX8_swap_11 kJ_X8_219 rfl ?_
    refine ok_calls F [pL n, pL 1, pL 99] dX8_swap_14 kM_X8_in kS_X8_in kL_X8_100 rfl (by decide) (Nat.le_of_ble_eq_true rfl) rfl (m_X8_in _ n 1 99 mem (by omega) (by omega) (by omega)) ?_
    rintro _ _ ⟨rfl, rfl⟩
    refine ok_if_eq F 33 dX8_swap_17 (by decide) (by omega) (fun c_2 => ?_) (fun c_2 => ?_)
    · refine ok_iconst F dX8_swap_33 ?_
      refine ok_iret F G dX8_swap_34 ?_
      exact ⟨_, rfl, Keep.rf _, by rw [if_neg (by omega)]⟩
    · have q1 := hVl k.toNat (by omega)
      rw [show 3 + k.toNat = (3 + k).toNat by omega] at q1
      have q3 : 0 ≤ n * mem 1 (3 + k).toNat ∧ n * mem 1 (3 + k).toNat ≤ 99 * 500 := ⟨Int.mul_nonneg (by omega) (by omega), Int.mul_le_mul (by omega) q1.2 (by omega) (by omega)⟩
      refine ok_iload_n F dX8_swap_20 2 rfl ?_
      refine ok_aload_n F dX8_swap_21 0 rfl ?_
      refine ok_iload_n F dX8_swap_22 1 rfl ?_
      refine ok_callv F [pI k] dX8_swap_23 kM_X8_value kI_X8_value kV_X8_value kL_X8_191 (ci := 8) rfl sh_0 rfl (by decide) (Nat.le_of_ble_eq_true rfl) rfl (m_X8_value _ k mem (by omega)) ?_
      rintro _ _ ⟨rfl, rfl⟩
      refine ok_imul F dX8_swap_26 ?_
      refine ok_sipush F dX8_swap_27 rfl ?_
      refine ok_icmp_le F 35 dX8_swap_30 (by decide) (by omega) (by omega) (fun c_3 => ?_) (fun c_3 => ?_)
      · refine ok_aload_n F dX8_swap_35 0 rfl ?_
        refine ok_aload_n F dX8_swap_36 0 rfl ?_
        refine ok_getr F dX8_swap_37 kF_X8_9 sh_0 rfl ?_
        refine ok_bipush F dX8_swap_40 rfl ?_
        refine ok_iload_n F dX8_swap_42 1 rfl ?_
        refine ok_iload_n F dX8_swap_43 2 rfl ?_
        refine ok_aload_n F dX8_swap_44 0 rfl ?_
        refine ok_iload_n F dX8_swap_45 1 rfl ?_
        refine ok_callv F [pI k] dX8_swap_46 kM_X8_value kI_X8_value kV_X8_value kL_X8_191 (ci := 8) rfl sh_0 rfl (by decide) (Nat.le_of_ble_eq_true rfl) rfl (m_X8_value _ k mem (by omega)) ?_
        rintro _ _ ⟨rfl, rfl⟩
        refine ok_imul F dX8_swap_49 ?_
        refine ok_callv F [pR 1, pI 11, pI k, pI (n * (mem 1 (3 + k).toNat))] dX8_swap_50 kM_X8_changes kI_X8_changes kV_X8_changes kL_X8_235 (ci := 8) rfl sh_0 rfl (by decide) (Nat.le_of_ble_eq_true rfl) rfl (m_X8_changes _ 1 11 k (n * (mem 1 (3 + k).toNat)) mem (459) (sh_1) (by decide) (by decide) (by decide) (by omega) (by omega) (by omega) (fun i hi => hVl i (by omega)) (fun i hi => ⟨(hTl i (by omega)).1, Int.le_trans (hTl i (by omega)).2 (by decide)⟩) (by decide)) ?_
        rintro _ m_5 ⟨z_4, rfl, r_6⟩
        obtain ⟨hfr, hch0⟩ := id r_6
        have hch : (fewT (fun i => (mem 1 (3 + i)).toNat) (fun i => (mem 1 (11 + i)).toNat) k.toNat (n * mem 1 (3 + k).toNat).toNat = 1000000 ∧ z_4 = -1 ∨ fewT (fun i => (mem 1 (3 + i)).toNat) (fun i => (mem 1 (11 + i)).toNat) k.toNat (n * mem 1 (3 + k).toNat).toNat < 1000000 ∧ z_4 = fewT (fun i => (mem 1 (3 + i)).toNat) (fun i => (mem 1 (11 + i)).toNat) k.toNat (n * mem 1 (3 + k).toNat).toNat ∧ ∀ j : Nat, j < 8 → m_5 11 j = takR (fun i => (mem 1 (3 + i)).toNat) (fun i => (mem 1 (11 + i)).toNat) k.toNat (n * mem 1 (3 + k).toNat).toNat j) := hch0
        have hb := fewT_bd (fun i => (mem 1 (3 + i)).toNat) (fun i => (mem 1 (11 + i)).toNat) k.toNat (n * mem 1 (3 + k).toNat).toNat
        refine ok_istore_n (lv' := [(3, pI z_4), (0, pR 0), (1, pI k), (2, pI n)]) F dX8_swap_53 (by decide) rfl ?_
        refine ok_iload_n F dX8_swap_54 0 rfl ?_
        refine ok_iconst F dX8_swap_55 ?_
        refine ok_icmp_ne F 64 dX8_swap_56 (by decide) (by omega) (by omega) (fun c_7 => ?_) (fun c_7 => ?_)
        · have q2 := hPu k.toNat (by omega)
          rw [show 19 + k.toNat = (19 + k).toNat by omega] at q2
          refine ok_aload_n F dX8_swap_64 1 rfl ?_
          refine ok_getr F dX8_swap_65 kF_X8_9 sh_0 rfl ?_
          refine ok_bipush F dX8_swap_68 rfl ?_
          refine ok_iload_n F dX8_swap_70 2 rfl ?_
          refine ok_iadd F dX8_swap_71 ?_
          refine ok_iald (v := mem 1 ((19 + k).toNat)) F dX8_swap_72 sh_1 (by first | decide | assumption) (by omega) (by omega) (by rw [(r_6.1 1 (by decide) (by decide) (by decide))] <;> rfl) ?_
          refine ok_iload_n F dX8_swap_73 3 rfl ?_
          refine ok_icmp_ge F 82 dX8_swap_74 (by decide) (by omega) (by omega) (fun c_8 => ?_) (fun c_8 => ?_)
          · refine ok_iload_n F dX8_swap_82 0 rfl ?_
            refine ok_iret F G dX8_swap_83 ?_
            refine ⟨_, rfl, Keep.f3 hfr, ?_⟩
            rw [if_pos (by omega)]
            first | (rw [if_neg (by omega)]; done) | (rw [if_pos (by omega), if_pos (by omega)]; done) | (rw [if_pos (by omega), if_neg (by omega)]; omega)
          · refine ok_bipush F dX8_swap_77 rfl ?_
            refine ok_goto F 83 dX8_swap_79 (by decide) ?_
            refine ok_iret F G dX8_swap_83 ?_
            refine ⟨_, rfl, Keep.f3 hfr, ?_⟩
            rw [if_pos (by omega)]
            first | (rw [if_neg (by omega)]; done) | (rw [if_pos (by omega), if_pos (by omega)]; done) | (rw [if_pos (by omega), if_neg (by omega)]; omega)
        · refine ok_bipush F dX8_swap_59 rfl ?_
          refine ok_goto F 83 dX8_swap_61 (by decide) ?_
          refine ok_iret F G dX8_swap_83 ?_
          refine ⟨_, rfl, Keep.f3 hfr, ?_⟩
          rw [if_pos (by omega)]
          first | (rw [if_neg (by omega)]; done) | (rw [if_pos (by omega), if_pos (by omega)]; done) | (rw [if_pos (by omega), if_neg (by omega)]; omega)
      · refine ok_iconst F dX8_swap_33 ?_
        refine ok_iret F G dX8_swap_34 ?_
        exact ⟨_, rfl, Keep.rf _, by rw [if_neg (by omega)]⟩
theorem dX8_gaps_0 : decode cX8_gaps 0 = .ok (.aload_n 0, 1) := by decide +kernel
theorem dX8_gaps_1 : decode cX8_gaps 1 = .ok (.aload_n 1, 1) := by decide +kernel
theorem dX8_gaps_2 : decode cX8_gaps 2 = .ok (.iload_n 2, 1) := by decide +kernel
theorem dX8_gaps_3 : decode cX8_gaps 3 = .ok (.aload_n 0, 1) := by decide +kernel
theorem dX8_gaps_4 : decode cX8_gaps 4 = .ok (.getfield 9, 3) := by decide +kernel
theorem dX8_gaps_7 : decode cX8_gaps 7 = .ok (.iconst 0, 1) := by decide +kernel
theorem dX8_gaps_8 : decode cX8_gaps 8 = .ok (.iaload, 1) := by decide +kernel
theorem dX8_gaps_9 : decode cX8_gaps 9 = .ok (.sipush 2500, 3) := by decide +kernel
theorem dX8_gaps_12 : decode cX8_gaps 12 = .ok (.invokevirtual 202, 3) := by decide +kernel
theorem dX8_gaps_15 : decode cX8_gaps 15 = .ok (.iconst 0, 1) := by decide +kernel
theorem dX8_gaps_16 : decode cX8_gaps 16 = .ok (.istore_n 3, 1) := by decide +kernel
theorem dX8_gaps_17 : decode cX8_gaps 17 = .ok (.iconst 0, 1) := by decide +kernel
theorem dX8_gaps_18 : decode cX8_gaps 18 = .ok (.istore 4, 2) := by decide +kernel
theorem dX8_gaps_20 : decode cX8_gaps 20 = .ok (.iload 4, 2) := by decide +kernel
theorem dX8_gaps_22 : decode cX8_gaps 22 = .ok (.sipush 2500, 3) := by decide +kernel
theorem dX8_gaps_25 : decode cX8_gaps 25 = .ok (.if_icmp .gt 35, 3) := by decide +kernel
theorem dX8_gaps_28 : decode cX8_gaps 28 = .ok (.iload_n 3, 1) := by decide +kernel
theorem dX8_gaps_29 : decode cX8_gaps 29 = .ok (.aload_n 0, 1) := by decide +kernel
theorem dX8_gaps_30 : decode cX8_gaps 30 = .ok (.aload_n 0, 1) := by decide +kernel
theorem dX8_gaps_31 : decode cX8_gaps 31 = .ok (.getfield 9, 3) := by decide +kernel
theorem dX8_gaps_34 : decode cX8_gaps 34 = .ok (.iconst 0, 1) := by decide +kernel
theorem dX8_gaps_35 : decode cX8_gaps 35 = .ok (.iaload, 1) := by decide +kernel
theorem dX8_gaps_36 : decode cX8_gaps 36 = .ok (.iload 4, 2) := by decide +kernel
theorem dX8_gaps_38 : decode cX8_gaps 38 = .ok (.invokevirtual 206, 3) := by decide +kernel
theorem dX8_gaps_41 : decode cX8_gaps 41 = .ok (.ifCond .ne 7, 3) := by decide +kernel
theorem dX8_gaps_44 : decode cX8_gaps 44 = .ok (.iconst 1, 1) := by decide +kernel
theorem dX8_gaps_45 : decode cX8_gaps 45 = .ok (.goto 4, 3) := by decide +kernel
theorem dX8_gaps_48 : decode cX8_gaps 48 = .ok (.iconst 0, 1) := by decide +kernel
theorem dX8_gaps_49 : decode cX8_gaps 49 = .ok (.invokestatic 137, 3) := by decide +kernel
theorem dX8_gaps_52 : decode cX8_gaps 52 = .ok (.iadd, 1) := by decide +kernel
theorem dX8_gaps_53 : decode cX8_gaps 53 = .ok (.istore_n 3, 1) := by decide +kernel
theorem dX8_gaps_54 : decode cX8_gaps 54 = .ok (.iinc 4 1, 3) := by decide +kernel
theorem dX8_gaps_57 : decode cX8_gaps 57 = .ok (.goto (-37), 3) := by decide +kernel
theorem dX8_gaps_60 : decode cX8_gaps 60 = .ok (.iload_n 3, 1) := by decide +kernel
theorem dX8_gaps_61 : decode cX8_gaps 61 = .ok (.ireturn, 1) := by decide +kernel
set_option maxHeartbeats 4000000 in
set_option maxRecDepth 100000 in
theorem m_X8_gaps (l : Launch) (R : Nat) (f : Int) (mem : Mem) (hN : 0 ≤ mem 1 0 ∧ mem 1 0 ≤ 8) (hVl : ∀ i : Nat, (i : Int) < mem 1 0 → 1 ≤ mem 1 (3 + i) ∧ mem 1 (3 + i) ≤ 500) (nR : Nat) (hR : shp[R]? = some (.inr (.inl (0, nR)))) (hnR : nR < 2 ^ 31) (hR8 : R ≠ 8) (hR9 : R ≠ 9) (hfn : 0 ≤ f ∧ f + mem 1 0 ≤ nR) (hC : ∀ i : Nat, (i : Int) < mem 1 0 → 0 ≤ mem R (f.toNat + i) ∧ mem R (f.toNat + i) ≤ 200) : Ret shp l yX8_gaps cX8_gaps 5 (some .int) 3 [pR 0, pR R, pI f] mem (fun rv mv => ∃ z, rv = some (pI z) ∧ (∀ a, a ≠ 8 → a ≠ 9 → mv a = mem a) ∧ z = gapsF (fun i => (mem 1 (3 + i)).toNat) (fun i => (mem R (f.toNat + i)).toNat) (mem 1 0).toNat ∧ ∀ x : Nat, x ≤ 2500 → mv 8 (2501 * mem 1 0 + (x : Int)).toNat = fewT (fun i => (mem 1 (3 + i)).toNat) (fun i => (mem R (f.toNat + i)).toNat) (mem 1 0).toNat x) := by
  refine ret_of (by decide +kernel) (Nat.le_of_ble_eq_true rfl) (fun X hX F G => ?_)
  show Ok shp X 5 0 [(0, pR 0), (1, pR R), (2, pI f)] [] mem
  refine ok_aload_n F dX8_gaps_0 0 rfl ?_
  refine ok_aload_n F dX8_gaps_1 1 rfl ?_
  refine ok_iload_n F dX8_gaps_2 2 rfl ?_
  refine ok_aload_n F dX8_gaps_3 0 rfl ?_
  refine ok_getr F dX8_gaps_4 kF_X8_9 sh_0 rfl ?_
  refine ok_iconst F dX8_gaps_7 ?_
  refine ok_iald (v := mem 1 0) F dX8_gaps_8 sh_1 (by first | decide | assumption) (by omega) (by omega) rfl ?_
  refine ok_sipush F dX8_gaps_9 rfl ?_
  refine ok_callv F [pR R, pI f, pI (mem 1 0), pI 2500] dX8_gaps_12 kM_X8_laysFewest kI_X8_laysFewest kV_X8_laysFewest kL_X8_202 (ci := 8) rfl sh_0 rfl (by decide) (Nat.le_of_ble_eq_true rfl) rfl (m_X8_laysFewest _ R f (mem 1 0) 2500 mem (nR) (hR) (hnR) (hR8) (hR9) (by omega) (by omega) (by omega) (hVl) (hC)) ?_
  rintro _ m_2 ⟨rfl, r_3⟩
  obtain ⟨hfr, hT⟩ := id r_3
  have h1 := hfr 1 (by decide) (by decide)
  have hTN : ∀ x : Nat, x ≤ 2500 → m_2 8 (2501 * mem 1 0 + (x : Int)).toNat = fewT (fun i => (mem 1 (3 + i)).toNat) (fun i => (mem R (f.toNat + i)).toNat) (mem 1 0).toNat x := fun x hx => by rw [show (2501 * mem 1 0 + (x : Int)).toNat = 2501 * (mem 1 0).toNat + x by omega]; exact hT _ (Nat.le_refl _) x hx
  refine ok_iconst F dX8_gaps_15 ?_
  refine ok_istore_n (lv' := [(3, pI 0), (0, pR 0), (1, pR R), (2, pI f)]) F dX8_gaps_16 (by decide) rfl ?_
  refine ok_iconst F dX8_gaps_17 ?_
  refine ok_istore (lv' := [(4, pI 0), (3, pI 0), (0, pR 0), (1, pR R), (2, pI f)]) F dX8_gaps_18 (by decide) rfl ?_
  have hL_20 : ∀ (n_20 : Nat) (g : Int) (a : Int), (0 ≤ a ∧ a ≤ 2501 ∧ g = sumN (fun a => if fewT (fun i => (mem 1 (3 + i)).toNat) (fun i => (mem R (f.toNat + i)).toNat) (mem 1 0).toNat a < 1000000 then 0 else 1) a.toNat) → (2501 - a).toNat = n_20 → Ok shp X 5 20 [(0, pR 0), (1, pR R), (2, pI f), (3, pI g), (4, pI a)] [] m_2 := by
    intro n_20
    induction n_20 using Nat.strongRecOn with
    | _ n_20 ih_20 =>
      intro g a hI_20 hn_20
      refine ok_iload F dX8_gaps_20 4 rfl ?_
      refine ok_sipush F dX8_gaps_22 rfl ?_
      refine ok_icmp_gt F 60 dX8_gaps_25 (by decide) (by omega) (by omega) (fun c_4 => ?_) (fun c_4 => ?_)
      · refine ok_iload_n F dX8_gaps_60 3 rfl ?_
        refine ok_iret F G dX8_gaps_61 ?_
        exact ⟨_, rfl, hfr, by rw [hI_20.2.2, show a = 2501 by omega]; rfl, hTN⟩
      · refine ok_iload_n F dX8_gaps_28 3 rfl ?_
        refine ok_aload_n F dX8_gaps_29 0 rfl ?_
        refine ok_aload_n F dX8_gaps_30 0 rfl ?_
        refine ok_getr F dX8_gaps_31 kF_X8_9 sh_0 rfl ?_
        refine ok_iconst F dX8_gaps_34 ?_
        refine ok_iald (v := mem 1 0) F dX8_gaps_35 sh_1 (by first | decide | assumption) (by omega) (by omega) (by rw [(r_3.1 1 (by decide) (by decide))] <;> rfl) ?_
        refine ok_iload F dX8_gaps_36 4 rfl ?_
        refine ok_callv F [pI (mem 1 0), pI a] dX8_gaps_38 kM_X8_hasChange kI_X8_hasChange kV_X8_hasChange kL_X8_206 (ci := 8) rfl sh_0 rfl (by decide) (Nat.le_of_ble_eq_true rfl) rfl (m_X8_hasChange _ (mem 1 0) a m_2 (by omega) (by omega) (by have := hTN a.toNat (by omega); rw [show ((a.toNat : Nat) : Int) = a by omega] at this; rw [this]; exact fewT_bd _ _ _ _)) ?_
        rintro _ _ ⟨rfl, rfl⟩
        refine ok_if_ne F 48 dX8_gaps_41 (by decide) (by omega) (fun c_5 => ?_) (fun c_5 => ?_)
        · refine ok_iconst F dX8_gaps_48 ?_
          refine ok_calls F [pI 0] dX8_gaps_49 kM_X8_truth kS_X8_truth kL_X8_137 rfl (by decide) (Nat.le_of_ble_eq_true rfl) rfl (m_X8_truth _ 0 m_2 (by omega)) ?_
          rintro _ _ ⟨rfl, rfl⟩
          refine ok_iadd F dX8_gaps_52 ?_
          refine ok_istore_n (lv' := [(3, pI (g + (if 0 = 0 then 0 else 1))), (0, pR 0), (1, pR R), (2, pI f), (4, pI a)]) F dX8_gaps_53 (by decide) rfl ?_
          refine ok_iinc (lv' := [(4, pI (a + 1)), (3, pI (g + (if 0 = 0 then 0 else 1))), (0, pR 0), (1, pR R), (2, pI f)]) F dX8_gaps_54 4 rfl (by decide) rfl ?_
          refine ok_goto F 20 dX8_gaps_57 (by decide) ?_
          refine ok_lvp [2, 3, 4, 1, 0] (lv' := [(0, pR 0), (1, pR R), (2, pI f), (3, pI (g + (if 0 = 0 then 0 else 1))), (4, pI (a + 1))]) rfl ?_
          refine ih_20 _ ?_ (g + (if 0 = 0 then 0 else 1)) (a + 1) ?_ rfl
          · omega
          · have e := hTN a.toNat (by omega)
            rw [show ((a.toNat : Nat) : Int) = a by omega] at e
            refine ⟨by omega, by omega, ?_⟩
            rw [sumN_s _ hI_20.1, ← hI_20.2.2]
            omega
        · refine ok_iconst F dX8_gaps_44 ?_
          refine ok_goto F 49 dX8_gaps_45 (by decide) ?_
          refine ok_calls F [pI 1] dX8_gaps_49 kM_X8_truth kS_X8_truth kL_X8_137 rfl (by decide) (Nat.le_of_ble_eq_true rfl) rfl (m_X8_truth _ 1 m_2 (by omega)) ?_
          rintro _ _ ⟨rfl, rfl⟩
          refine ok_iadd F dX8_gaps_52 ?_
          refine ok_istore_n (lv' := [(3, pI (g + (if 1 = 0 then 0 else 1))), (0, pR 0), (1, pR R), (2, pI f), (4, pI a)]) F dX8_gaps_53 (by decide) rfl ?_
          refine ok_iinc (lv' := [(4, pI (a + 1)), (3, pI (g + (if 1 = 0 then 0 else 1))), (0, pR 0), (1, pR R), (2, pI f)]) F dX8_gaps_54 4 rfl (by decide) rfl ?_
          refine ok_goto F 20 dX8_gaps_57 (by decide) ?_
          refine ok_lvp [2, 3, 4, 1, 0] (lv' := [(0, pR 0), (1, pR R), (2, pI f), (3, pI (g + (if 1 = 0 then 0 else 1))), (4, pI (a + 1))]) rfl ?_
          refine ih_20 _ ?_ (g + (if 1 = 0 then 0 else 1)) (a + 1) ?_ rfl
          · omega
          · have e := hTN a.toNat (by omega)
            rw [show ((a.toNat : Nat) : Int) = a by omega] at e
            refine ⟨by omega, by omega, ?_⟩
            rw [sumN_s _ hI_20.1, ← hI_20.2.2]
            omega
  refine ok_lvp [2, 3, 4, 1, 0] (lv' := [(0, pR 0), (1, pR R), (2, pI f), (3, pI 0), (4, pI 0)]) rfl ?_
  refine hL_20 _ 0 0 ?_ rfl
  exact ⟨by omega, by omega, rfl⟩
theorem dX8_gap_0 : decode cX8_gap 0 = .ok (.iload_n 1, 1) := by decide +kernel
theorem dX8_gap_1 : decode cX8_gap 1 = .ok (.i2l, 1) := by decide +kernel
theorem dX8_gap_2 : decode cX8_gap 2 = .ok (.lconst 0, 1) := by decide +kernel
theorem dX8_gap_3 : decode cX8_gap 3 = .ok (.lconst 1, 1) := by decide +kernel
theorem dX8_gap_4 : decode cX8_gap 4 = .ok (.invokestatic 100, 3) := by decide +kernel
theorem dX8_gap_7 : decode cX8_gap 7 = .ok (.ifCond .ne 5, 3) := by decide +kernel
theorem dX8_gap_10 : decode cX8_gap 10 = .ok (.iconst (-1), 1) := by decide +kernel
theorem dX8_gap_11 : decode cX8_gap 11 = .ok (.ireturn, 1) := by decide +kernel
theorem dX8_gap_12 : decode cX8_gap 12 = .ok (.aload_n 0, 1) := by decide +kernel
theorem dX8_gap_13 : decode cX8_gap 13 = .ok (.aload_n 0, 1) := by decide +kernel
theorem dX8_gap_14 : decode cX8_gap 14 = .ok (.getfield 9, 3) := by decide +kernel
theorem dX8_gap_17 : decode cX8_gap 17 = .ok (.bipush 11, 2) := by decide +kernel
theorem dX8_gap_19 : decode cX8_gap 19 = .ok (.invokevirtual 312, 3) := by decide +kernel
theorem dX8_gap_22 : decode cX8_gap 22 = .ok (.istore_n 2, 1) := by decide +kernel
theorem dX8_gap_23 : decode cX8_gap 23 = .ok (.iload_n 1, 1) := by decide +kernel
theorem dX8_gap_24 : decode cX8_gap 24 = .ok (.iconst 1, 1) := by decide +kernel
theorem dX8_gap_25 : decode cX8_gap 25 = .ok (.if_icmp .ne 5, 3) := by decide +kernel
theorem dX8_gap_28 : decode cX8_gap 28 = .ok (.iload_n 2, 1) := by decide +kernel
theorem dX8_gap_29 : decode cX8_gap 29 = .ok (.ireturn, 1) := by decide +kernel
theorem dX8_gap_30 : decode cX8_gap 30 = .ok (.iconst 0, 1) := by decide +kernel
theorem dX8_gap_31 : decode cX8_gap 31 = .ok (.istore_n 3, 1) := by decide +kernel
theorem dX8_gap_32 : decode cX8_gap 32 = .ok (.iload_n 3, 1) := by decide +kernel
theorem dX8_gap_33 : decode cX8_gap 33 = .ok (.sipush 2500, 3) := by decide +kernel
theorem dX8_gap_36 : decode cX8_gap 36 = .ok (.if_icmp .gt 25, 3) := by decide +kernel
theorem dX8_gap_39 : decode cX8_gap 39 = .ok (.aload_n 0, 1) := by decide +kernel
theorem dX8_gap_40 : decode cX8_gap 40 = .ok (.aload_n 0, 1) := by decide +kernel
theorem dX8_gap_41 : decode cX8_gap 41 = .ok (.getfield 9, 3) := by decide +kernel
theorem dX8_gap_44 : decode cX8_gap 44 = .ok (.iconst 0, 1) := by decide +kernel
theorem dX8_gap_45 : decode cX8_gap 45 = .ok (.iaload, 1) := by decide +kernel
theorem dX8_gap_46 : decode cX8_gap 46 = .ok (.iload_n 3, 1) := by decide +kernel
theorem dX8_gap_47 : decode cX8_gap 47 = .ok (.invokevirtual 206, 3) := by decide +kernel
theorem dX8_gap_50 : decode cX8_gap 50 = .ok (.ifCond .ne 5, 3) := by decide +kernel
theorem dX8_gap_53 : decode cX8_gap 53 = .ok (.iload_n 3, 1) := by decide +kernel
theorem dX8_gap_54 : decode cX8_gap 54 = .ok (.ireturn, 1) := by decide +kernel
theorem dX8_gap_55 : decode cX8_gap 55 = .ok (.iinc 3 1, 3) := by decide +kernel
theorem dX8_gap_58 : decode cX8_gap 58 = .ok (.goto (-26), 3) := by decide +kernel
theorem dX8_gap_61 : decode cX8_gap 61 = .ok (.bipush (-2), 2) := by decide +kernel
theorem dX8_gap_63 : decode cX8_gap 63 = .ok (.ireturn, 1) := by decide +kernel
set_option maxHeartbeats 4000000 in
set_option maxRecDepth 100000 in
theorem m_X8_gap (l : Launch) (w : Int) (mem : Mem) (hw : i32 w) (hN : 0 ≤ mem 1 0 ∧ mem 1 0 ≤ 8) (hVl : ∀ i : Nat, (i : Int) < mem 1 0 → 1 ≤ mem 1 (3 + i) ∧ mem 1 (3 + i) ≤ 500) (hTl : ∀ k : Nat, k < 8 → 0 ≤ mem 1 (11 + k) ∧ mem 1 (11 + k) ≤ 99) : Ret shp l yX8_gap cX8_gap 4 (some .int) 4 [pR 0, pI w] mem (fun rv mv => ∃ z, rv = some (pI z) ∧ Keep mem mv ∧ z = if w = 0 then gapAt (fun a => decide (fewT (fun i => (mem 1 (3 + i)).toNat) (fun i => (mem 1 (11 + i)).toNat) (mem 1 0).toNat a = 1000000)) 2501 0 else if w = 1 then gapsF (fun i => (mem 1 (3 + i)).toNat) (fun i => (mem 1 (11 + i)).toNat) (mem 1 0).toNat else -1) := by
  refine ret_of (by decide +kernel) (Nat.le_of_ble_eq_true rfl) (fun X hX F G => ?_)
  show Ok shp X 4 0 [(0, pR 0), (1, pI w)] [] mem
  refine ok_iload_n F dX8_gap_0 1 rfl ?_
  refine ok_i2l F dX8_gap_1 (by omega) ?_
  refine ok_lconst (z := 0) F dX8_gap_2 rfl ?_
  refine ok_lconst (z := 1) F dX8_gap_3 rfl ?_
  refine ok_calls F [pL w, pL 0, pL 1] dX8_gap_4 kM_X8_in kS_X8_in kL_X8_100 rfl (by decide) (Nat.le_of_ble_eq_true rfl) rfl (m_X8_in _ w 0 1 mem (by omega) (by omega) (by omega)) ?_
  rintro _ _ ⟨rfl, rfl⟩
  refine ok_if_ne F 12 dX8_gap_7 (by decide) (by omega) (fun c_1 => ?_) (fun c_1 => ?_)
  · refine ok_aload_n F dX8_gap_12 0 rfl ?_
    refine ok_aload_n F dX8_gap_13 0 rfl ?_
    refine ok_getr F dX8_gap_14 kF_X8_9 sh_0 rfl ?_
    refine ok_bipush F dX8_gap_17 rfl ?_
    refine ok_callv F [pR 1, pI 11] dX8_gap_19 kM_X8_gaps kI_X8_gaps kV_X8_gaps kL_X8_312 (ci := 8) rfl sh_0 rfl (by decide) (Nat.le_of_ble_eq_true rfl) rfl (m_X8_gaps _ 1 11 mem (by omega) (hVl) (459) (sh_1) (by decide) (by decide) (by decide) (by omega) (fun i hi => ⟨(hTl i (by omega)).1, Int.le_trans (hTl i (by omega)).2 (by decide)⟩)) ?_
    rintro _ m_3 ⟨z_2, rfl, r_4⟩
    obtain ⟨hfr, hz0, hT0⟩ := id r_4
    have hz : z_2 = gapsF (fun i => (mem 1 (3 + i)).toNat) (fun i => (mem 1 (11 + i)).toNat) (mem 1 0).toNat := hz0
    have hT : ∀ x : Nat, x ≤ 2500 → m_3 8 (2501 * mem 1 0 + (x : Int)).toNat = fewT (fun i => (mem 1 (3 + i)).toNat) (fun i => (mem 1 (11 + i)).toNat) (mem 1 0).toNat x := hT0
    have hsb := sumN_bd (f := fun a => if fewT (fun i => (mem 1 (3 + i)).toNat) (fun i => (mem 1 (11 + i)).toNat) (mem 1 0).toNat a < 1000000 then 0 else 1) (B := 1) (n := 2501) (fun k hk => by show 0 ≤ (if _ then (0:Int) else 1) ∧ (if _ then (0:Int) else 1) ≤ 1; split <;> decide)
    refine ok_istore_n (lv' := [(2, pI z_2), (0, pR 0), (1, pI w)]) F dX8_gap_22 (by decide) rfl ?_
    refine ok_iload_n F dX8_gap_23 2 rfl ?_
    refine ok_iconst F dX8_gap_24 ?_
    refine ok_icmp_ne F 30 dX8_gap_25 (by decide) (by omega) (by omega) (fun c_5 => ?_) (fun c_5 => ?_)
    · refine ok_iconst F dX8_gap_30 ?_
      refine ok_istore_n (lv' := [(3, pI 0), (2, pI z_2), (0, pR 0), (1, pI w)]) F dX8_gap_31 (by decide) rfl ?_
      have hL_32 : ∀ (n_32 : Nat) (a : Int), (0 ≤ a ∧ a ≤ 2501 ∧ gapAt (fun a => decide (fewT (fun i => (mem 1 (3 + i)).toNat) (fun i => (mem 1 (11 + i)).toNat) (mem 1 0).toNat a = 1000000)) 2501 0 = gapAt (fun a => decide (fewT (fun i => (mem 1 (3 + i)).toNat) (fun i => (mem 1 (11 + i)).toNat) (mem 1 0).toNat a = 1000000)) (2501 - a).toNat a.toNat) → (2501 - a).toNat = n_32 → Ok shp X 4 32 [(0, pR 0), (1, pI w), (2, pI z_2), (3, pI a)] [] m_3 := by
        intro n_32
        induction n_32 using Nat.strongRecOn with
        | _ n_32 ih_32 =>
          intro a hI_32 hn_32
          refine ok_iload_n F dX8_gap_32 3 rfl ?_
          refine ok_sipush F dX8_gap_33 rfl ?_
          refine ok_icmp_gt F 61 dX8_gap_36 (by decide) (by omega) (by omega) (fun c_6 => ?_) (fun c_6 => ?_)
          · refine ok_bipush F dX8_gap_61 rfl ?_
            refine ok_iret F G dX8_gap_63 ?_
            refine ⟨_, rfl, Keep.f2 hfr, ?_⟩
            rw [if_pos (by omega), hI_32.2.2, show (2501 - a).toNat = 0 by omega]
            rfl
          · refine ok_aload_n F dX8_gap_39 0 rfl ?_
            refine ok_aload_n F dX8_gap_40 0 rfl ?_
            refine ok_getr F dX8_gap_41 kF_X8_9 sh_0 rfl ?_
            refine ok_iconst F dX8_gap_44 ?_
            refine ok_iald (v := mem 1 0) F dX8_gap_45 sh_1 (by first | decide | assumption) (by omega) (by omega) (by rw [(r_4.1 1 (by decide) (by decide))] <;> rfl) ?_
            refine ok_iload_n F dX8_gap_46 3 rfl ?_
            refine ok_callv F [pI (mem 1 0), pI a] dX8_gap_47 kM_X8_hasChange kI_X8_hasChange kV_X8_hasChange kL_X8_206 (ci := 8) rfl sh_0 rfl (by decide) (Nat.le_of_ble_eq_true rfl) rfl (m_X8_hasChange _ (mem 1 0) a m_3 (by omega) (by omega) (by have := hT a.toNat (by omega); rw [show ((a.toNat : Nat) : Int) = a by omega] at this; rw [this]; exact fewT_bd _ _ _ _)) ?_
            rintro _ _ ⟨rfl, rfl⟩
            refine ok_if_ne F 55 dX8_gap_50 (by decide) (by omega) (fun c_7 => ?_) (fun c_7 => ?_)
            · refine ok_iinc (lv' := [(3, pI (a + 1)), (0, pR 0), (1, pI w), (2, pI z_2)]) F dX8_gap_55 3 rfl (by decide) rfl ?_
              refine ok_goto F 32 dX8_gap_58 (by decide) ?_
              refine ok_lvp [1, 2, 3, 0] (lv' := [(0, pR 0), (1, pI w), (2, pI z_2), (3, pI (a + 1))]) rfl ?_
              refine ih_32 _ ?_ (a + 1) ?_ rfl
              · omega
              · have e := hT a.toNat (by omega)
                rw [show ((a.toNat : Nat) : Int) = a by omega] at e
                refine ⟨by omega, by omega, ?_⟩
                rw [hI_32.2.2, show (2501 - a).toNat = (2501 - (a + 1)).toNat + 1 by omega, gapAt, if_neg (by rw [decide_eq_true_iff]; omega), show (a + 1).toNat = a.toNat + 1 by omega]
            · refine ok_iload_n F dX8_gap_53 3 rfl ?_
              refine ok_iret F G dX8_gap_54 ?_
              have e := hT a.toNat (by omega)
              rw [show ((a.toNat : Nat) : Int) = a by omega] at e
              have hb := fewT_bd (fun i => (mem 1 (3 + i)).toNat) (fun i => (mem 1 (11 + i)).toNat) (mem 1 0).toNat a.toNat
              refine ⟨_, rfl, Keep.f2 hfr, ?_⟩
              rw [if_pos (by omega), hI_32.2.2, show (2501 - a).toNat = (2501 - (a + 1)).toNat + 1 by omega, gapAt, if_pos (by rw [decide_eq_true_iff]; omega)]
              omega
      refine ok_lvp [2, 3, 1, 0] (lv' := [(0, pR 0), (1, pI w), (2, pI z_2), (3, pI 0)]) rfl ?_
      refine hL_32 _ 0 ?_ rfl
      exact ⟨by omega, by omega, rfl⟩
    · refine ok_iload_n F dX8_gap_28 0 rfl ?_
      refine ok_iret F G dX8_gap_29 ?_
      exact ⟨_, rfl, Keep.f2 hfr, by rw [if_neg (by omega), if_pos (by omega)]; exact hz⟩
  · refine ok_iconst F dX8_gap_10 ?_
    refine ok_iret F G dX8_gap_11 ?_
    exact ⟨_, rfl, Keep.rf _, by rw [if_neg (by omega), if_neg (by omega)]⟩
theorem dX8_dearest_0 : decode cX8_dearest 0 = .ok (.iload_n 1, 1) := by decide +kernel
theorem dX8_dearest_1 : decode cX8_dearest 1 = .ok (.i2l, 1) := by decide +kernel
theorem dX8_dearest_2 : decode cX8_dearest 2 = .ok (.lconst 0, 1) := by decide +kernel
theorem dX8_dearest_3 : decode cX8_dearest 3 = .ok (.lconst 1, 1) := by decide +kernel
theorem dX8_dearest_4 : decode cX8_dearest 4 = .ok (.invokestatic 100, 3) := by decide +kernel
theorem dX8_dearest_7 : decode cX8_dearest 7 = .ok (.ifCond .ne 5, 3) := by decide +kernel
theorem dX8_dearest_10 : decode cX8_dearest 10 = .ok (.iconst (-1), 1) := by decide +kernel
theorem dX8_dearest_11 : decode cX8_dearest 11 = .ok (.ireturn, 1) := by decide +kernel
theorem dX8_dearest_12 : decode cX8_dearest 12 = .ok (.aload_n 0, 1) := by decide +kernel
theorem dX8_dearest_13 : decode cX8_dearest 13 = .ok (.aload_n 0, 1) := by decide +kernel
theorem dX8_dearest_14 : decode cX8_dearest 14 = .ok (.getfield 9, 3) := by decide +kernel
theorem dX8_dearest_17 : decode cX8_dearest 17 = .ok (.bipush 11, 2) := by decide +kernel
theorem dX8_dearest_19 : decode cX8_dearest 19 = .ok (.aload_n 0, 1) := by decide +kernel
theorem dX8_dearest_20 : decode cX8_dearest 20 = .ok (.getfield 9, 3) := by decide +kernel
theorem dX8_dearest_23 : decode cX8_dearest 23 = .ok (.iconst 0, 1) := by decide +kernel
theorem dX8_dearest_24 : decode cX8_dearest 24 = .ok (.iaload, 1) := by decide +kernel
theorem dX8_dearest_25 : decode cX8_dearest 25 = .ok (.sipush 2500, 3) := by decide +kernel
theorem dX8_dearest_28 : decode cX8_dearest 28 = .ok (.invokevirtual 202, 3) := by decide +kernel
theorem dX8_dearest_31 : decode cX8_dearest 31 = .ok (.iconst 0, 1) := by decide +kernel
theorem dX8_dearest_32 : decode cX8_dearest 32 = .ok (.istore_n 2, 1) := by decide +kernel
theorem dX8_dearest_33 : decode cX8_dearest 33 = .ok (.iconst 0, 1) := by decide +kernel
theorem dX8_dearest_34 : decode cX8_dearest 34 = .ok (.istore_n 3, 1) := by decide +kernel
theorem dX8_dearest_35 : decode cX8_dearest 35 = .ok (.iconst 0, 1) := by decide +kernel
theorem dX8_dearest_36 : decode cX8_dearest 36 = .ok (.istore 4, 2) := by decide +kernel
theorem dX8_dearest_38 : decode cX8_dearest 38 = .ok (.iload 4, 2) := by decide +kernel
theorem dX8_dearest_40 : decode cX8_dearest 40 = .ok (.sipush 2500, 3) := by decide +kernel
theorem dX8_dearest_43 : decode cX8_dearest 43 = .ok (.if_icmp .gt 46, 3) := by decide +kernel
theorem dX8_dearest_46 : decode cX8_dearest 46 = .ok (.aload_n 0, 1) := by decide +kernel
theorem dX8_dearest_47 : decode cX8_dearest 47 = .ok (.getfield 33, 3) := by decide +kernel
theorem dX8_dearest_50 : decode cX8_dearest 50 = .ok (.aload_n 0, 1) := by decide +kernel
theorem dX8_dearest_51 : decode cX8_dearest 51 = .ok (.getfield 9, 3) := by decide +kernel
theorem dX8_dearest_54 : decode cX8_dearest 54 = .ok (.iconst 0, 1) := by decide +kernel
theorem dX8_dearest_55 : decode cX8_dearest 55 = .ok (.iaload, 1) := by decide +kernel
theorem dX8_dearest_56 : decode cX8_dearest 56 = .ok (.iload 4, 2) := by decide +kernel
theorem dX8_dearest_58 : decode cX8_dearest 58 = .ok (.invokestatic 194, 3) := by decide +kernel
theorem dX8_dearest_61 : decode cX8_dearest 61 = .ok (.iaload, 1) := by decide +kernel
theorem dX8_dearest_62 : decode cX8_dearest 62 = .ok (.istore 5, 2) := by decide +kernel
theorem dX8_dearest_64 : decode cX8_dearest 64 = .ok (.iload 5, 2) := by decide +kernel
theorem dX8_dearest_66 : decode cX8_dearest 66 = .ok (.ldc 197, 2) := by decide +kernel
theorem dX8_dearest_68 : decode cX8_dearest 68 = .ok (.if_icmp .ge 15, 3) := by decide +kernel
theorem dX8_dearest_71 : decode cX8_dearest 71 = .ok (.iload 5, 2) := by decide +kernel
theorem dX8_dearest_73 : decode cX8_dearest 73 = .ok (.iload_n 2, 1) := by decide +kernel
theorem dX8_dearest_74 : decode cX8_dearest 74 = .ok (.if_icmp .le 9, 3) := by decide +kernel
theorem dX8_dearest_77 : decode cX8_dearest 77 = .ok (.iload 5, 2) := by decide +kernel
theorem dX8_dearest_79 : decode cX8_dearest 79 = .ok (.istore_n 2, 1) := by decide +kernel
theorem dX8_dearest_80 : decode cX8_dearest 80 = .ok (.iload 4, 2) := by decide +kernel
theorem dX8_dearest_82 : decode cX8_dearest 82 = .ok (.istore_n 3, 1) := by decide +kernel
theorem dX8_dearest_83 : decode cX8_dearest 83 = .ok (.iinc 4 1, 3) := by decide +kernel
theorem dX8_dearest_86 : decode cX8_dearest 86 = .ok (.goto (-48), 3) := by decide +kernel
theorem dX8_dearest_89 : decode cX8_dearest 89 = .ok (.iload_n 1, 1) := by decide +kernel
theorem dX8_dearest_90 : decode cX8_dearest 90 = .ok (.ifCond .ne 7, 3) := by decide +kernel
theorem dX8_dearest_93 : decode cX8_dearest 93 = .ok (.iload_n 2, 1) := by decide +kernel
theorem dX8_dearest_94 : decode cX8_dearest 94 = .ok (.goto 4, 3) := by decide +kernel
theorem dX8_dearest_97 : decode cX8_dearest 97 = .ok (.iload_n 3, 1) := by decide +kernel
theorem dX8_dearest_98 : decode cX8_dearest 98 = .ok (.ireturn, 1) := by decide +kernel
set_option maxHeartbeats 4000000 in
set_option maxRecDepth 100000 in
theorem m_X8_dearest (l : Launch) (w : Int) (mem : Mem) (hw : i32 w) (hN : 0 ≤ mem 1 0 ∧ mem 1 0 ≤ 8) (hVl : ∀ i : Nat, (i : Int) < mem 1 0 → 1 ≤ mem 1 (3 + i) ∧ mem 1 (3 + i) ≤ 500) (hTl : ∀ k : Nat, k < 8 → 0 ≤ mem 1 (11 + k) ∧ mem 1 (11 + k) ≤ 99) : Ret shp l yX8_dearest cX8_dearest 6 (some .int) 4 [pR 0, pI w] mem (fun rv mv => ∃ z, rv = some (pI z) ∧ Keep mem mv ∧ z = if w = 0 then (mostF (fewT (fun i => (mem 1 (3 + i)).toNat) (fun i => (mem 1 (11 + i)).toNat) (mem 1 0).toNat) 2501).1 else if w = 1 then (mostF (fewT (fun i => (mem 1 (3 + i)).toNat) (fun i => (mem 1 (11 + i)).toNat) (mem 1 0).toNat) 2501).2 else -1) := by
  refine ret_of (by decide +kernel) (Nat.le_of_ble_eq_true rfl) (fun X hX F G => ?_)
  show Ok shp X 6 0 [(0, pR 0), (1, pI w)] [] mem
  refine ok_iload_n F dX8_dearest_0 1 rfl ?_
  refine ok_i2l F dX8_dearest_1 (by omega) ?_
  refine ok_lconst (z := 0) F dX8_dearest_2 rfl ?_
  refine ok_lconst (z := 1) F dX8_dearest_3 rfl ?_
  refine ok_calls F [pL w, pL 0, pL 1] dX8_dearest_4 kM_X8_in kS_X8_in kL_X8_100 rfl (by decide) (Nat.le_of_ble_eq_true rfl) rfl (m_X8_in _ w 0 1 mem (by omega) (by omega) (by omega)) ?_
  rintro _ _ ⟨rfl, rfl⟩
  refine ok_if_ne F 12 dX8_dearest_7 (by decide) (by omega) (fun c_1 => ?_) (fun c_1 => ?_)
  · refine ok_aload_n F dX8_dearest_12 0 rfl ?_
    refine ok_aload_n F dX8_dearest_13 0 rfl ?_
    refine ok_getr F dX8_dearest_14 kF_X8_9 sh_0 rfl ?_
    refine ok_bipush F dX8_dearest_17 rfl ?_
    refine ok_aload_n F dX8_dearest_19 0 rfl ?_
    refine ok_getr F dX8_dearest_20 kF_X8_9 sh_0 rfl ?_
    refine ok_iconst F dX8_dearest_23 ?_
    refine ok_iald (v := mem 1 0) F dX8_dearest_24 sh_1 (by first | decide | assumption) (by omega) (by omega) rfl ?_
    refine ok_sipush F dX8_dearest_25 rfl ?_
    refine ok_callv F [pR 1, pI 11, pI (mem 1 0), pI 2500] dX8_dearest_28 kM_X8_laysFewest kI_X8_laysFewest kV_X8_laysFewest kL_X8_202 (ci := 8) rfl sh_0 rfl (by decide) (Nat.le_of_ble_eq_true rfl) rfl (m_X8_laysFewest _ 1 11 (mem 1 0) 2500 mem (459) (sh_1) (by decide) (by decide) (by decide) (by omega) (by omega) (by omega) (fun i hi => hVl i (by omega)) (fun i hi => ⟨(hTl i (by omega)).1, Int.le_trans (hTl i (by omega)).2 (by decide)⟩)) ?_
    rintro _ m_3 ⟨rfl, r_4⟩
    obtain ⟨hfr, hT0⟩ := id r_4
    have h1 := hfr 1 (by decide) (by decide)
    have hT : ∀ x : Nat, x ≤ 2500 → m_3 8 (2501 * mem 1 0 + (x : Int)).toNat = fewT (fun i => (mem 1 (3 + i)).toNat) (fun i => (mem 1 (11 + i)).toNat) (mem 1 0).toNat x := fun x hx => by rw [show (2501 * mem 1 0 + (x : Int)).toNat = 2501 * (mem 1 0).toNat + x by omega]; exact hT0 _ (Nat.le_refl _) x hx
    refine ok_iconst F dX8_dearest_31 ?_
    refine ok_istore_n (lv' := [(2, pI 0), (0, pR 0), (1, pI w)]) F dX8_dearest_32 (by decide) rfl ?_
    refine ok_iconst F dX8_dearest_33 ?_
    refine ok_istore_n (lv' := [(3, pI 0), (2, pI 0), (0, pR 0), (1, pI w)]) F dX8_dearest_34 (by decide) rfl ?_
    refine ok_iconst F dX8_dearest_35 ?_
    refine ok_istore (lv' := [(4, pI 0), (3, pI 0), (2, pI 0), (0, pR 0), (1, pI w)]) F dX8_dearest_36 (by decide) rfl ?_
    have hL_38 : ∀ (n_38 : Nat) (b : Int) (c : Int) (a : Int), (0 ≤ a ∧ a ≤ 2501 ∧ b = (mostF (fewT (fun i => (mem 1 (3 + i)).toNat) (fun i => (mem 1 (11 + i)).toNat) (mem 1 0).toNat) a.toNat).1 ∧ c = (mostF (fewT (fun i => (mem 1 (3 + i)).toNat) (fun i => (mem 1 (11 + i)).toNat) (mem 1 0).toNat) a.toNat).2) → (2501 - a).toNat = n_38 → Ok shp X 6 38 [(0, pR 0), (1, pI w), (2, pI b), (3, pI c), (4, pI a)] [] m_3 := by
      intro n_38
      induction n_38 using Nat.strongRecOn with
      | _ n_38 ih_38 =>
        intro b c a hI_38 hn_38
        refine ok_iload F dX8_dearest_38 4 rfl ?_
        refine ok_sipush F dX8_dearest_40 rfl ?_
        refine ok_icmp_gt F 89 dX8_dearest_43 (by decide) (by omega) (by omega) (fun c_5 => ?_) (fun c_5 => ?_)
        · refine ok_iload_n F dX8_dearest_89 1 rfl ?_
          refine ok_if_ne F 97 dX8_dearest_90 (by decide) (by omega) (fun c_6 => ?_) (fun c_6 => ?_)
          · refine ok_iload_n F dX8_dearest_97 3 rfl ?_
            refine ok_iret F G dX8_dearest_98 ?_
            have ea : a.toNat = 2501 := by omega
            rw [ea] at hI_38
            refine ⟨_, rfl, Keep.f2 hfr, ?_⟩
            first | (rw [if_pos (by omega)]; exact hI_38.2.2.1) | (rw [if_neg (by omega), if_pos (by omega)]; exact hI_38.2.2.2)
          · refine ok_iload_n F dX8_dearest_93 2 rfl ?_
            refine ok_goto F 98 dX8_dearest_94 (by decide) ?_
            refine ok_iret F G dX8_dearest_98 ?_
            have ea : a.toNat = 2501 := by omega
            rw [ea] at hI_38
            refine ⟨_, rfl, Keep.f2 hfr, ?_⟩
            first | (rw [if_pos (by omega)]; exact hI_38.2.2.1) | (rw [if_neg (by omega), if_pos (by omega)]; exact hI_38.2.2.2)
        · have e := hT a.toNat (by omega)
          rw [show ((a.toNat : Nat) : Int) = a by omega] at e
          have hb := fewT_bd (fun i => (mem 1 (3 + i)).toNat) (fun i => (mem 1 (11 + i)).toNat) (mem 1 0).toNat a.toNat
          have hm := mostF_bd (f := fewT (fun i => (mem 1 (3 + i)).toNat) (fun i => (mem 1 (11 + i)).toNat) (mem 1 0).toNat) (fun x => (fewT_bd _ _ _ _).1) a.toNat
          refine ok_aload_n F dX8_dearest_46 0 rfl ?_
          refine ok_getr F dX8_dearest_47 kF_X8_33 sh_0 rfl ?_
          refine ok_aload_n F dX8_dearest_50 0 rfl ?_
          refine ok_getr F dX8_dearest_51 kF_X8_9 sh_0 rfl ?_
          refine ok_iconst F dX8_dearest_54 ?_
          refine ok_iald (v := mem 1 0) F dX8_dearest_55 sh_1 (by first | decide | assumption) (by omega) (by omega) (by rw [(r_4.1 1 (by decide) (by decide))] <;> rfl) ?_
          refine ok_iload F dX8_dearest_56 4 rfl ?_
          refine ok_calls F [pI (mem 1 0), pI a] dX8_dearest_58 kM_X8_cell kS_X8_cell kL_X8_194 rfl (by decide) (Nat.le_of_ble_eq_true rfl) rfl (m_X8_cell _ (mem 1 0) a m_3) ?_
          rintro _ _ ⟨rfl, rfl⟩
          refine ok_iald (v := m_3 8 ((2501 * (mem 1 0) + a).toNat)) F dX8_dearest_61 sh_8 (by first | decide | assumption) (by omega) (by omega) rfl ?_
          refine ok_istore (lv' := [(5, pI (m_3 8 ((2501 * (mem 1 0) + a).toNat))), (0, pR 0), (1, pI w), (2, pI b), (3, pI c), (4, pI a)]) F dX8_dearest_62 (by decide) rfl ?_
          refine ok_iload F dX8_dearest_64 0 rfl ?_
          refine ok_ldc (n := 1000000) F dX8_dearest_66 kK_X8_197 rfl ?_
          refine ok_icmp_ge F 83 dX8_dearest_68 (by decide) (by omega) (by omega) (fun c_7 => ?_) (fun c_7 => ?_)
          · refine ok_iinc (lv' := [(4, pI (a + 1)), (5, pI (m_3 8 ((2501 * (mem 1 0) + a).toNat))), (0, pR 0), (1, pI w), (2, pI b), (3, pI c)]) F dX8_dearest_83 5 rfl (by decide) rfl ?_
            refine ok_goto F 38 dX8_dearest_86 (by decide) ?_
            refine ok_lvp [2, 3, 4, 5, 0] (lv' := [(0, pR 0), (1, pI w), (2, pI b), (3, pI c), (4, pI (a + 1))]) rfl ?_
            refine ih_38 _ ?_ b c (a + 1) ?_ rfl
            · omega
            · refine ⟨by omega, by omega, ?_, ?_⟩
              all_goals rw [mostF_s _ hI_38.1]
              all_goals first
                | (rw [if_neg (by omega)]; omega)
                | (rw [if_pos (by omega)] <;> (try dsimp only) <;> omega)
          · refine ok_iload F dX8_dearest_71 0 rfl ?_
            refine ok_iload_n F dX8_dearest_73 3 rfl ?_
            refine ok_icmp_le F 83 dX8_dearest_74 (by decide) (by omega) (by omega) (fun c_8 => ?_) (fun c_8 => ?_)
            · refine ok_iinc (lv' := [(4, pI (a + 1)), (5, pI (m_3 8 ((2501 * (mem 1 0) + a).toNat))), (0, pR 0), (1, pI w), (2, pI b), (3, pI c)]) F dX8_dearest_83 5 rfl (by decide) rfl ?_
              refine ok_goto F 38 dX8_dearest_86 (by decide) ?_
              refine ok_lvp [2, 3, 4, 5, 0] (lv' := [(0, pR 0), (1, pI w), (2, pI b), (3, pI c), (4, pI (a + 1))]) rfl ?_
              refine ih_38 _ ?_ b c (a + 1) ?_ rfl
              · omega
              · refine ⟨by omega, by omega, ?_, ?_⟩
                all_goals rw [mostF_s _ hI_38.1]
                all_goals first
                  | (rw [if_neg (by omega)]; omega)
                  | (rw [if_pos (by omega)] <;> (try dsimp only) <;> omega)
            · refine ok_iload F dX8_dearest_77 0 rfl ?_
              refine ok_istore_n (lv' := [(2, pI (m_3 8 ((2501 * (mem 1 0) + a).toNat))), (5, pI (m_3 8 ((2501 * (mem 1 0) + a).toNat))), (0, pR 0), (1, pI w), (3, pI c), (4, pI a)]) F dX8_dearest_79 (by decide) rfl ?_
              refine ok_iload F dX8_dearest_80 5 rfl ?_
              refine ok_istore_n (lv' := [(3, pI a), (2, pI (m_3 8 ((2501 * (mem 1 0) + a).toNat))), (5, pI (m_3 8 ((2501 * (mem 1 0) + a).toNat))), (0, pR 0), (1, pI w), (4, pI a)]) F dX8_dearest_82 (by decide) rfl ?_
              refine ok_iinc (lv' := [(4, pI (a + 1)), (3, pI a), (2, pI (m_3 8 ((2501 * (mem 1 0) + a).toNat))), (5, pI (m_3 8 ((2501 * (mem 1 0) + a).toNat))), (0, pR 0), (1, pI w)]) F dX8_dearest_83 5 rfl (by decide) rfl ?_
              refine ok_goto F 38 dX8_dearest_86 (by decide) ?_
              refine ok_lvp [4, 5, 2, 1, 0] (lv' := [(0, pR 0), (1, pI w), (2, pI (m_3 8 ((2501 * (mem 1 0) + a).toNat))), (3, pI a), (4, pI (a + 1))]) rfl ?_
              refine ih_38 _ ?_ (m_3 8 ((2501 * (mem 1 0) + a).toNat)) a (a + 1) ?_ rfl
              · omega
              · refine ⟨by omega, by omega, ?_, ?_⟩
                all_goals rw [mostF_s _ hI_38.1]
                all_goals first
                  | (rw [if_neg (by omega)]; omega)
                  | (rw [if_pos (by omega)] <;> (try dsimp only) <;> omega)
    refine ok_lvp [3, 4, 2, 1, 0] (lv' := [(0, pR 0), (1, pI w), (2, pI 0), (3, pI 0), (4, pI 0)]) rfl ?_
    refine hL_38 _ 0 0 0 ?_ rfl
    exact ⟨by omega, by omega, rfl, rfl⟩
  · refine ok_iconst F dX8_dearest_10 ?_
    refine ok_iret F G dX8_dearest_11 ?_
    exact ⟨_, rfl, Keep.rf _, by rw [if_neg (by omega), if_neg (by omega)]⟩
