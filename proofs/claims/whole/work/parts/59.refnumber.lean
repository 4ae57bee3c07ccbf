/-! the reference: numbers told -/
theorem skipF_bd {mem : Mem} (hT : mem 0 7 ≤ 400) : ∀ (n : Nat) {p : Int}, 0 ≤ p ∧ p ≤ 400 → p ≤ skipF mem n p ∧ skipF mem n p ≤ 400
  | 0, p, h => ⟨Int.le_refl _, h.2⟩
  | n + 1, p, h => by
    rw [skipF_s]
    by_cases g : sgn mem p = 32
    · rw [if_pos g]
      have hp : p < mem 0 7 := by
        by_cases q : p < mem 0 7
        · exact q
        · have e : sgn mem p = -1 := if_neg q
          omega
      have := skipF_bd hT n (p := p + 1) (by omega)
      omega
    · rw [if_neg g]; exact ⟨Int.le_refl _, h.2⟩
/-- the digits from a place on: where they end, and what they come to, 100000 at most -/
def numL (mem : Mem) : Nat → Int → Int → Int × Int
  | 0, p, n => (p, n)
  | m + 1, p, n => if 48 ≤ sgn mem p ∧ sgn mem p ≤ 57 then numL mem m (p + 1) (min 100000 (10 * n + sgn mem p - 48)) else (p, n)
theorem numL_s (mem : Mem) (m : Nat) (p n : Int) : numL mem (m + 1) p n = if 48 ≤ sgn mem p ∧ sgn mem p ≤ 57 then numL mem m (p + 1) (min 100000 (10 * n + sgn mem p - 48)) else (p, n) := rfl
/-- a number asked for: what it is, where the reading then stands, the fault, where the number began -/
def numR (mem : Mem) (low high : Int) : Int × Int × Int × Int := if mem 0 9 ≠ -1 then (0, mem 0 8, mem 0 9, mem 0 10) else if 48 ≤ sgn mem (skipF mem 401 (mem 0 8)) ∧ sgn mem (skipF mem 401 (mem 0 8)) ≤ 57 then ((numL mem 401 (skipF mem 401 (mem 0 8)) 0).2, (numL mem 401 (skipF mem 401 (mem 0 8)) 0).1, (if low ≤ (numL mem 401 (skipF mem 401 (mem 0 8)) 0).2 ∧ (numL mem 401 (skipF mem 401 (mem 0 8)) 0).2 ≤ high then -1 else 8 * skipF mem 401 (mem 0 8) + 2), skipF mem 401 (mem 0 8)) else (0, skipF mem 401 (mem 0 8), 8 * skipF mem 401 (mem 0 8) + 1, mem 0 10)
theorem dX8_isDigit_0 : decode cX8_isDigit 0 = .ok (.aload_n 0, 1) := by decide +kernel
theorem dX8_isDigit_1 : decode cX8_isDigit 1 = .ok (.invokevirtual 93, 3) := by decide +kernel
theorem dX8_isDigit_4 : decode cX8_isDigit 4 = .ok (.i2l, 1) := by decide +kernel
theorem dX8_isDigit_5 : decode cX8_isDigit 5 = .ok (.ldc2_w 113, 3) := by decide +kernel
theorem dX8_isDigit_8 : decode cX8_isDigit 8 = .ok (.ldc2_w 115, 3) := by decide +kernel
theorem dX8_isDigit_11 : decode cX8_isDigit 11 = .ok (.invokestatic 100, 3) := by decide +kernel
theorem dX8_isDigit_14 : decode cX8_isDigit 14 = .ok (.ireturn, 1) := by decide +kernel
set_option maxHeartbeats 4000000 in
set_option maxRecDepth 100000 in
theorem m_X8_isDigit (l : Launch) (mem : Mem) (hT : 0 ≤ mem 0 7 ∧ mem 0 7 ≤ 400) (hA : 0 ≤ mem 0 8 ∧ mem 0 8 ≤ 400) : Ret shp l yX8_isDigit cX8_isDigit 1 (some .boolean) 2 [pR 0] mem (fun rv mv => rv = some (pI (if 48 ≤ sgn mem (skipF mem 401 (mem 0 8)) ∧ sgn mem (skipF mem 401 (mem 0 8)) ≤ 57 then 1 else 0)) ∧ mv = mset mem 0 8 (skipF mem 401 (mem 0 8))) := by
  refine ret_of (by decide +kernel) (Nat.le_of_ble_eq_true rfl) (fun X hX F G => ?_)
  show Ok shp X 1 0 [(0, pR 0)] [] mem
  refine ok_aload_n F dX8_isDigit_0 0 rfl ?_
  refine ok_callv F [] dX8_isDigit_1 kM_X8_next kI_X8_next kV_X8_next kL_X8_93 (ci := 8) rfl sh_0 rfl (by decide) (Nat.le_of_ble_eq_true rfl) rfl (m_X8_next _ mem (by omega) (by omega)) ?_
  rintro _ m_1 ⟨rfl, e_2⟩
  have eN := e_2
  have hsb := sgn_bd mem (skipF mem 401 (mem 0 8))
  refine ok_i2l F dX8_isDigit_4 (by omega) ?_
  refine ok_ldc2 (n := 48) F dX8_isDigit_5 kJ_X8_113 rfl ?_
  refine ok_ldc2 (n := 57) F dX8_isDigit_8 kJ_X8_115 rfl ?_
  refine ok_calls F [pL (sgn mem (skipF mem 401 (mem 0 8))), pL 48, pL 57] dX8_isDigit_11 kM_X8_in kS_X8_in kL_X8_100 rfl (by decide) (Nat.le_of_ble_eq_true rfl) rfl (m_X8_in _ (sgn mem (skipF mem 401 (mem 0 8))) 48 57 m_1 (by omega) (by omega) (by omega)) ?_
  rintro _ _ ⟨rfl, rfl⟩
  refine ok_zret F G dX8_isDigit_14 (by first | rfl | exact zb_nar) ?_
  exact ⟨rfl, eN⟩
