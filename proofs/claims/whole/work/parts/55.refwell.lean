/-! the reference: bags for a day -/
/-- the till with so many bags of each kind poured in -/
def wkF (f r : Nat → Int) : Nat → Int := fun k => if (k : Int) < f 0 then f (11 + k) + r k * f (35 + k) else f (11 + k)
/-- whether bags go well: none too many, and no sale of the day is short -/
def wellB (f : Nat → Int) (d : Int) (r : Nat → Int) : Bool := !anyN (fun k => decide (0 < r k) && decide (99 < f (11 + k) + r k * f (35 + k))) (f 0).toNat && decide (shR f d (f 2).toNat (wkF f r) = 0)
/-- the first b from one on for which g finds something, and the row that it then leaves -/
def fbLoop (g : Nat → (Nat → Int) → Bool × (Nat → Int)) : Nat → Nat → (Nat → Int) → Bool × (Nat → Int)
  | 0, _, r => (false, r)
  | m + 1, b, r => if (g b r).1 = true then (true, (g b r).2) else fbLoop g m (b + 1) (g b r).2
def fbR (good : (Nat → Int) → Bool) : Nat → Nat → Nat → (Nat → Int) → Bool × (Nat → Int)
  | 0, k, left, row => (good (rput row k left), rput row k left)
  | j + 1, k, left, row => fbLoop (fun b r => fbR good j (k + 1) (left - b) (rput r k b)) (left + 1) 0 row
/-- the least number for which g finds something; none -/
def neLoop (g : Nat → (Nat → Int) → Bool × (Nat → Int)) : Nat → Nat → (Nat → Int) → Int × (Nat → Int)
  | 0, _, r => (-2, r)
  | m + 1, b, r => if (g b r).1 = true then ((b : Int), (g b r).2) else neLoop g m (b + 1) (g b r).2
theorem fbLoop_s (g : Nat → (Nat → Int) → Bool × (Nat → Int)) (m b : Nat) (r : Nat → Int) : fbLoop g (m + 1) b r = if (g b r).1 = true then (true, (g b r).2) else fbLoop g m (b + 1) (g b r).2 := rfl
theorem neLoop_s (g : Nat → (Nat → Int) → Bool × (Nat → Int)) (m b : Nat) (r : Nat → Int) : neLoop g (m + 1) b r = if (g b r).1 = true then ((b : Int), (g b r).2) else neLoop g m (b + 1) (g b r).2 := rfl
theorem fbLoop_lo {g : Nat → (Nat → Int) → Bool × (Nat → Int)} {i : Nat} (h : ∀ b r, (g b r).2 i = r i) : ∀ (m b : Nat) (r : Nat → Int), (fbLoop g m b r).2 i = r i
  | 0, _, _ => rfl
  | m + 1, b, r => by
    rw [fbLoop_s]
    by_cases q : (g b r).1 = true
    · rw [if_pos q]; exact h b r
    · rw [if_neg q, fbLoop_lo h m (b + 1)]; exact h b r
theorem fbR_lo (good : (Nat → Int) → Bool) {i : Nat} : ∀ (j k left : Nat) (row : Nat → Int), i < k → (fbR good j k left row).2 i = row i
  | 0, k, left, row, h => if_neg (by omega)
  | j + 1, k, left, row, h => fbLoop_lo (g := fun b r => fbR good j (k + 1) (left - b) (rput r k b)) (fun b r => by
      show (fbR good j (k + 1) (left - b) (rput r k b)).2 i = r i
      rw [fbR_lo good j (k + 1) (left - b) (rput r k b) (by omega)]
      exact if_neg (by omega)) (left + 1) 0 row
theorem mset_row (m : Mem) (a k : Nat) (z : Int) : mset m a k z a = rput (m a) k z := by
  funext b
  unfold rput
  by_cases e : b = k
  · subst e; rw [if_pos rfl, mset_eq]
  · rw [if_neg e, mset_ne (fun q => e q.2)]
theorem anyN_ex {f : Nat → Bool} : ∀ {n : Nat}, anyN f n = true → ∃ k, k < n ∧ f k = true
  | 0, h => by simp [anyN] at h
  | n + 1, h => by
    have e : anyN f (n + 1) = (anyN f n || f n) := rfl
    rw [e, Bool.or_eq_true] at h
    rcases h with h | h
    · obtain ⟨k, k1, k2⟩ := anyN_ex h
      exact ⟨k, by omega, k2⟩
    · exact ⟨n, by omega, h⟩
theorem dX8_goesWell_0 : decode cX8_goesWell 0 = .ok (.aload_n 0, 1) := by decide +kernel
theorem dX8_goesWell_1 : decode cX8_goesWell 1 = .ok (.invokevirtual 279, 3) := by decide +kernel
theorem dX8_goesWell_4 : decode cX8_goesWell 4 = .ok (.iconst 0, 1) := by decide +kernel
theorem dX8_goesWell_5 : decode cX8_goesWell 5 = .ok (.istore_n 2, 1) := by decide +kernel
theorem dX8_goesWell_6 : decode cX8_goesWell 6 = .ok (.iload_n 2, 1) := by decide +kernel
theorem dX8_goesWell_7 : decode cX8_goesWell 7 = .ok (.aload_n 0, 1) := by decide +kernel
theorem dX8_goesWell_8 : decode cX8_goesWell 8 = .ok (.getfield 9, 3) := by decide +kernel
theorem dX8_goesWell_11 : decode cX8_goesWell 11 = .ok (.iconst 0, 1) := by decide +kernel
theorem dX8_goesWell_12 : decode cX8_goesWell 12 = .ok (.iaload, 1) := by decide +kernel
theorem dX8_goesWell_13 : decode cX8_goesWell 13 = .ok (.if_icmp .ge 56, 3) := by decide +kernel
theorem dX8_goesWell_16 : decode cX8_goesWell 16 = .ok (.aload_n 0, 1) := by decide +kernel
theorem dX8_goesWell_17 : decode cX8_goesWell 17 = .ok (.getfield 52, 3) := by decide +kernel
theorem dX8_goesWell_20 : decode cX8_goesWell 20 = .ok (.iload_n 2, 1) := by decide +kernel
theorem dX8_goesWell_21 : decode cX8_goesWell 21 = .ok (.dup2, 1) := by decide +kernel
theorem dX8_goesWell_22 : decode cX8_goesWell 22 = .ok (.iaload, 1) := by decide +kernel
theorem dX8_goesWell_23 : decode cX8_goesWell 23 = .ok (.aload_n 0, 1) := by decide +kernel
theorem dX8_goesWell_24 : decode cX8_goesWell 24 = .ok (.getfield 68, 3) := by decide +kernel
theorem dX8_goesWell_27 : decode cX8_goesWell 27 = .ok (.iload_n 2, 1) := by decide +kernel
theorem dX8_goesWell_28 : decode cX8_goesWell 28 = .ok (.iaload, 1) := by decide +kernel
theorem dX8_goesWell_29 : decode cX8_goesWell 29 = .ok (.aload_n 0, 1) := by decide +kernel
theorem dX8_goesWell_30 : decode cX8_goesWell 30 = .ok (.getfield 9, 3) := by decide +kernel
theorem dX8_goesWell_33 : decode cX8_goesWell 33 = .ok (.bipush 35, 2) := by decide +kernel
theorem dX8_goesWell_35 : decode cX8_goesWell 35 = .ok (.iload_n 2, 1) := by decide +kernel
theorem dX8_goesWell_36 : decode cX8_goesWell 36 = .ok (.iadd, 1) := by decide +kernel
theorem dX8_goesWell_37 : decode cX8_goesWell 37 = .ok (.iaload, 1) := by decide +kernel
theorem dX8_goesWell_38 : decode cX8_goesWell 38 = .ok (.imul, 1) := by decide +kernel
theorem dX8_goesWell_39 : decode cX8_goesWell 39 = .ok (.iadd, 1) := by decide +kernel
theorem dX8_goesWell_40 : decode cX8_goesWell 40 = .ok (.iastore, 1) := by decide +kernel
theorem dX8_goesWell_41 : decode cX8_goesWell 41 = .ok (.aload_n 0, 1) := by decide +kernel
theorem dX8_goesWell_42 : decode cX8_goesWell 42 = .ok (.getfield 68, 3) := by decide +kernel
theorem dX8_goesWell_45 : decode cX8_goesWell 45 = .ok (.iload_n 2, 1) := by decide +kernel
theorem dX8_goesWell_46 : decode cX8_goesWell 46 = .ok (.iaload, 1) := by decide +kernel
theorem dX8_goesWell_47 : decode cX8_goesWell 47 = .ok (.ifCond .le 16, 3) := by decide +kernel
theorem dX8_goesWell_50 : decode cX8_goesWell 50 = .ok (.aload_n 0, 1) := by decide +kernel
theorem dX8_goesWell_51 : decode cX8_goesWell 51 = .ok (.getfield 52, 3) := by decide +kernel
theorem dX8_goesWell_54 : decode cX8_goesWell 54 = .ok (.iload_n 2, 1) := by decide +kernel
theorem dX8_goesWell_55 : decode cX8_goesWell 55 = .ok (.iaload, 1) := by decide +kernel
theorem dX8_goesWell_56 : decode cX8_goesWell 56 = .ok (.bipush 99, 2) := by decide +kernel
theorem dX8_goesWell_58 : decode cX8_goesWell 58 = .ok (.if_icmp .le 5, 3) := by decide +kernel
theorem dX8_goesWell_61 : decode cX8_goesWell 61 = .ok (.iconst 0, 1) := by decide +kernel
theorem dX8_goesWell_62 : decode cX8_goesWell 62 = .ok (.ireturn, 1) := by decide +kernel
theorem dX8_goesWell_63 : decode cX8_goesWell 63 = .ok (.iinc 2 1, 3) := by decide +kernel
theorem dX8_goesWell_66 : decode cX8_goesWell 66 = .ok (.goto (-60), 3) := by decide +kernel
theorem dX8_goesWell_69 : decode cX8_goesWell 69 = .ok (.aload_n 0, 1) := by decide +kernel
theorem dX8_goesWell_70 : decode cX8_goesWell 70 = .ok (.iload_n 1, 1) := by decide +kernel
theorem dX8_goesWell_71 : decode cX8_goesWell 71 = .ok (.invokevirtual 282, 3) := by decide +kernel
theorem dX8_goesWell_74 : decode cX8_goesWell 74 = .ok (.aload_n 0, 1) := by decide +kernel
theorem dX8_goesWell_75 : decode cX8_goesWell 75 = .ok (.getfield 258, 3) := by decide +kernel
theorem dX8_goesWell_78 : decode cX8_goesWell 78 = .ok (.ifCond .ne 7, 3) := by decide +kernel
theorem dX8_goesWell_81 : decode cX8_goesWell 81 = .ok (.iconst 1, 1) := by decide +kernel
theorem dX8_goesWell_82 : decode cX8_goesWell 82 = .ok (.goto 4, 3) := by decide +kernel
theorem dX8_goesWell_85 : decode cX8_goesWell 85 = .ok (.iconst 0, 1) := by decide +kernel
theorem dX8_goesWell_86 : decode cX8_goesWell 86 = .ok (.ireturn, 1) := by decide +kernel
set_option maxHeartbeats 4000000 in
set_option maxRecDepth 100000 in
theorem m_X8_goesWell (l : Launch) (d : Int) (mem : Mem) (hdi : i32 d) (hG : GR (mem 1)) (hI : ∀ b, i32 (mem 1 b)) (hB : ∀ k : Nat, (k : Int) < mem 1 0 → 0 ≤ mem 19 k ∧ mem 19 k ≤ 4) : Ret shp l yX8_goesWell cX8_goesWell 3 (some .boolean) 6 [pR 0, pI d] mem (fun rv mv => ∃ z, rv = some (pI z) ∧ (∀ a, a ≠ 0 → a ≠ 8 → a ≠ 9 → a ≠ 11 → a ≠ 14 → a ≠ 15 → a ≠ 16 → mv a = mem a) ∧ (∀ j, (j < 21 ∨ 26 < j) → mv 0 j = mem 0 j) ∧ z = if wellB (mem 1) d (mem 19) = true then 1 else 0) := by
  refine ret_of (by decide +kernel) (Nat.le_of_ble_eq_true rfl) (fun X hX F G => ?_)
  show Ok shp X 3 0 [(0, pR 0), (1, pI d)] [] mem
  have g0 := hG.1
  have g1 := hG.2.1
  have g2 := hG.2.2.1
  have hV := hG.2.2.2.1
  have hV1 := hG.2.2.2.2.1
  have hT : ∀ k : Nat, k < 8 → 0 ≤ mem 1 (11 + k) ∧ mem 1 (11 + k) ≤ 99 := fun k hk => hG.2.2.2.2.2.1 0 (by decide) k hk
  have hBg : ∀ k : Nat, k < 8 → 0 ≤ mem 1 (35 + k) ∧ mem 1 (35 + k) ≤ 99 := fun k hk => hG.2.2.2.2.2.1 3 (by decide) k hk
  have hS := hG.2.2.2.2.2.2.2.1
  refine ok_aload_n F dX8_goesWell_0 0 rfl ?_
  refine ok_callv F [] dX8_goesWell_1 kM_X8_laysWork kI_X8_laysWork kV_X8_laysWork kL_X8_279 (ci := 8) rfl sh_0 rfl (by decide) (Nat.le_of_ble_eq_true rfl) rfl (m_X8_laysWork _ mem) ?_
  rintro _ m_1 ⟨rfl, e_2⟩
  have eW := e_2
  refine ok_iconst F dX8_goesWell_4 ?_
  refine ok_istore_n (lv' := [(2, pI 0), (0, pR 0), (1, pI d)]) F dX8_goesWell_5 (by decide) rfl ?_
  have hL_6 : ∀ (n_6 : Nat) (k : Int) (m : Mem), (0 ≤ k ∧ k ≤ mem 1 0 ∧ (∀ a, a ≠ 14 → m a = mem a) ∧ (∀ j : Nat, j < 8 → m 14 j = if (j : Int) < k then mem 1 (11 + j) + mem 19 j * mem 1 (35 + j) else mem 1 (11 + j)) ∧ ∀ j : Nat, (j : Int) < k → ¬ (0 < mem 19 j ∧ 99 < mem 1 (11 + j) + mem 19 j * mem 1 (35 + j))) → (mem 1 0 - k).toNat = n_6 → Ok shp X 3 6 [(0, pR 0), (1, pI d), (2, pI k)] [] m := by
    intro n_6
    induction n_6 using Nat.strongRecOn with
    | _ n_6 ih_6 =>
      intro k m hI_6 hn_6
      obtain ⟨hk0, hk1, hF, hw, hno⟩ := hI_6
      refine ok_iload_n F dX8_goesWell_6 2 rfl ?_
      refine ok_aload_n F dX8_goesWell_7 0 rfl ?_
      refine ok_getr F dX8_goesWell_8 kF_X8_9 sh_0 rfl ?_
      refine ok_iconst F dX8_goesWell_11 ?_
      refine ok_iald (v := mem 1 0) F dX8_goesWell_12 sh_1 (by first | decide | assumption) (by first | omega | exact hI _) (by first | omega | exact hI _) (by rw [(hF 1 (by decide))] <;> rfl) ?_
      refine ok_icmp_ge F 69 dX8_goesWell_13 (by decide) (by first | omega | exact hI _) (by first | omega | exact hI _) (fun c_3 => ?_) (fun c_3 => ?_)
      · have o1 : m 1 = mem 1 := hF 1 (by decide)
        have hok : ∀ j : Nat, j < 8 → 0 ≤ (if (j : Int) < k then mem 1 (11 + j) + mem 19 j * mem 1 (35 + j) else mem 1 (11 + j)) ∧ (if (j : Int) < k then mem 1 (11 + j) + mem 19 j * mem 1 (35 + j) else mem 1 (11 + j)) ≤ 99 := fun j hj => by
          have b1 := hT j hj
          by_cases q : (j : Int) < k
          · rw [if_pos q]
            have b2 := hBg j hj
            have b3 := hB j (by omega)
            have b4 := mul_bd b3 b2
            have b5 := hno j q
            by_cases y : 0 < mem 19 j
            · omega
            · rw [show mem 19 j = 0 by omega] at b4 ⊢; rw [Int.zero_mul]; omega
          · rw [if_neg q]; exact b1
        have ewk : ∀ j : Nat, j < 8 → m 14 j = wkF (mem 1) (mem 19) j := fun j hj => by
          rw [hw j hj]
          unfold wkF
          by_cases q : (j : Int) < mem 1 0
          · rw [if_pos (by omega), if_pos q]
          · rw [if_neg (by omega), if_neg q]
        have hwk : ∀ j : Nat, j < 8 → 0 ≤ wkF (mem 1) (mem 19) j ∧ wkF (mem 1) (mem 19) j ≤ 99 := fun j hj => by rw [← ewk j hj, hw j hj]; exact hok j hj
        refine ok_aload_n F dX8_goesWell_69 0 rfl ?_
        refine ok_iload_n F dX8_goesWell_70 1 rfl ?_
        refine ok_callv F [pI d] dX8_goesWell_71 kM_X8_lives kI_X8_lives kV_X8_lives kL_X8_282 (ci := 8) rfl sh_0 rfl (by decide) (Nat.le_of_ble_eq_true rfl) rfl (m_X8_lives _ d m (hdi) (by rw [o1]; exact g0) (by rw [o1]; exact fun i hi => ⟨hV1 i hi, (hV i (by omega)).2⟩) (by rw [o1]; exact g2) (by rw [o1]; exact hI) (by rw [o1]; exact fun s hs => (hS s hs).2.2.2) (by rw [o1]; exact fun s hs => (hS s hs).2.2.1) (fun j hj => by rw [hw j hj]; exact hok j hj)) ?_
        rintro _ m_5 ⟨rfl, r_6⟩
        obtain ⟨hF2, hF0, nu, hL⟩ := id r_6
        rw [o1] at hL
        have h21 : m_5 0 21 = _ := hL.2.2.1
        rw [shR_of (w' := wkF (mem 1) (mem 19)) g0.2 ewk] at h21
        have hsb := shR_bd (m1 := mem 1) (d := d) (n2 := (mem 1 2).toNat) (w := wkF (mem 1) (mem 19)) g0.2 hwk (fun s hs j hj => ((hS s (by omega)).2.2.1 j hj).1)
        refine ok_aload_n F dX8_goesWell_74 0 rfl ?_
        refine ok_getf (v := m_5 0 21) F dX8_goesWell_75 kF_X8_258 sh_0 rfl rfl ?_
        refine ok_if_ne F 85 dX8_goesWell_78 (by decide) (by first | omega | exact hI _) (fun c_7 => ?_) (fun c_7 => ?_)
        · refine ok_iconst F dX8_goesWell_85 ?_
          refine ok_zret F G dX8_goesWell_86 (by first | rfl | exact zb_nar) ?_
          refine ⟨_, rfl, fun a c0 c1 c2 c3 c4 c5 c6 => by rw [hF2 a c0 c1 c2 c3 c4 c5 c6]; exact hF a c4, fun j hj => by rw [hF0 j hj, hF 0 (by decide)], ?_⟩
          have hany : anyN (fun k => decide (0 < mem 19 k) && decide (99 < mem 1 (11 + k) + mem 19 k * mem 1 (35 + k))) (mem 1 0).toNat = false := by
            cases hz : anyN (fun k => decide (0 < mem 19 k) && decide (99 < mem 1 (11 + k) + mem 19 k * mem 1 (35 + k))) (mem 1 0).toNat
            · rfl
            · obtain ⟨j, j1, j2⟩ := anyN_ex hz
              have j3 : (decide (0 < mem 19 j) && decide (99 < mem 1 (11 + j) + mem 19 j * mem 1 (35 + j))) = true := j2
              rw [Bool.and_eq_true, decide_eq_true_eq, decide_eq_true_eq] at j3
              exact absurd j3 (hno j (by omega))
          unfold wellB
          rw [hany]
          first
            | (rw [if_pos (by rw [decide_eq_true (by omega)]; rfl)]; done)
            | (rw [if_neg (by rw [decide_eq_false (by omega)]; decide)]; done)
        · refine ok_iconst F dX8_goesWell_81 ?_
          refine ok_goto F 86 dX8_goesWell_82 (by decide) ?_
          refine ok_zret F G dX8_goesWell_86 (by first | rfl | exact zb_nar) ?_
          refine ⟨_, rfl, fun a c0 c1 c2 c3 c4 c5 c6 => by rw [hF2 a c0 c1 c2 c3 c4 c5 c6]; exact hF a c4, fun j hj => by rw [hF0 j hj, hF 0 (by decide)], ?_⟩
          have hany : anyN (fun k => decide (0 < mem 19 k) && decide (99 < mem 1 (11 + k) + mem 19 k * mem 1 (35 + k))) (mem 1 0).toNat = false := by
            cases hz : anyN (fun k => decide (0 < mem 19 k) && decide (99 < mem 1 (11 + k) + mem 19 k * mem 1 (35 + k))) (mem 1 0).toNat
            · rfl
            · obtain ⟨j, j1, j2⟩ := anyN_ex hz
              have j3 : (decide (0 < mem 19 j) && decide (99 < mem 1 (11 + j) + mem 19 j * mem 1 (35 + j))) = true := j2
              rw [Bool.and_eq_true, decide_eq_true_eq, decide_eq_true_eq] at j3
              exact absurd j3 (hno j (by omega))
          unfold wellB
          rw [hany]
          first
            | (rw [if_pos (by rw [decide_eq_true (by omega)]; rfl)]; done)
            | (rw [if_neg (by rw [decide_eq_false (by omega)]; decide)]; done)
      · have a1 := hT k.toNat (by omega)
        have a2 := hBg k.toNat (by omega)
        have a3 := hB k.toNat (by omega)
        have a4 := mul_bd a3 a2
        have a5 := hw k.toNat (by omega)
        rw [if_neg (by omega)] at a5
        have s3 : 35 + k.toNat = (35 + k).toNat := by omega
        rw [s3] at a4 a2
        refine ok_aload_n F dX8_goesWell_16 0 rfl ?_
        refine ok_getr F dX8_goesWell_17 kF_X8_52 sh_0 rfl ?_
        refine ok_iload_n F dX8_goesWell_20 2 rfl ?_
        refine ok_dup2 F dX8_goesWell_21 rfl rfl ?_
        refine ok_iald (v := m 14 k.toNat) F dX8_goesWell_22 sh_14 (by first | decide | assumption) (by first | omega | exact hI _) (by first | omega | exact hI _) rfl ?_
        refine ok_aload_n F dX8_goesWell_23 0 rfl ?_
        refine ok_getr F dX8_goesWell_24 kF_X8_68 sh_0 rfl ?_
        refine ok_iload_n F dX8_goesWell_27 2 rfl ?_
        refine ok_iald (v := mem 19 k.toNat) F dX8_goesWell_28 sh_19 (by first | decide | assumption) (by first | omega | exact hI _) (by first | omega | exact hI _) (by rw [(hF 19 (by decide))] <;> rfl) ?_
        refine ok_aload_n F dX8_goesWell_29 0 rfl ?_
        refine ok_getr F dX8_goesWell_30 kF_X8_9 sh_0 rfl ?_
        refine ok_bipush F dX8_goesWell_33 rfl ?_
        refine ok_iload_n F dX8_goesWell_35 2 rfl ?_
        refine ok_iadd F dX8_goesWell_36 ?_
        refine ok_iald (v := mem 1 ((35 + k).toNat)) F dX8_goesWell_37 sh_1 (by first | decide | assumption) (by first | omega | exact hI _) (by first | omega | exact hI _) (by rw [(hF 1 (by decide))] <;> rfl) ?_
        refine ok_imul F dX8_goesWell_38 ?_
        refine ok_iadd F dX8_goesWell_39 ?_
        refine ok_iast F dX8_goesWell_40 sh_14 (by first | decide | assumption) (by first | omega | exact hI _) (by first | omega | exact hI _) (fun m_8 e_9 => ?_)
        refine ok_aload_n F dX8_goesWell_41 0 rfl ?_
        refine ok_getr F dX8_goesWell_42 kF_X8_68 sh_0 rfl ?_
        refine ok_iload_n F dX8_goesWell_45 2 rfl ?_
        refine ok_iald (v := mem 19 k.toNat) F dX8_goesWell_46 sh_19 (by first | decide | assumption) (by first | omega | exact hI _) (by first | omega | exact hI _) (by rw [e_9, mset_nk (by decide), (hF 19 (by decide))] <;> rfl) ?_
        refine ok_if_le F 63 dX8_goesWell_47 (by decide) (by first | omega | exact hI _) (fun c_10 => ?_) (fun c_10 => ?_)
        · refine ok_iinc (lv' := [(2, pI (k + 1)), (0, pR 0), (1, pI d)]) F dX8_goesWell_63 2 rfl (by decide) rfl ?_
          refine ok_goto F 6 dX8_goesWell_66 (by decide) ?_
          refine ok_lvp [1, 2, 0] (lv' := [(0, pR 0), (1, pI d), (2, pI (k + 1))]) rfl ?_
          refine ih_6 _ ?_ (k + 1) m_8 ?_ rfl
          · omega
          · refine ⟨by omega, by omega, fun a ha => by rw [e_9, mset_nka ha]; exact hF a ha, fun j hj => ?_, fun j hj => ?_⟩
            · rw [e_9]
              by_cases e : j = k.toNat
              · subst e; rw [mset_eq, if_pos (by omega), a5, ← s3]
              · rw [mset_ne (fun q => e q.2), hw j hj]; by_cases g : (j : Int) < k
                · rw [if_pos g, if_pos (by omega)]
                · rw [if_neg g, if_neg (by omega)]
            · by_cases e : (j : Int) < k
              · exact hno j e
              · rw [show j = k.toNat by omega, s3]; omega
        · refine ok_aload_n F dX8_goesWell_50 0 rfl ?_
          refine ok_getr F dX8_goesWell_51 kF_X8_52 sh_0 rfl ?_
          refine ok_iload_n F dX8_goesWell_54 2 rfl ?_
          refine ok_iald (v := ((m 14 k.toNat) + ((mem 19 k.toNat) * (mem 1 ((35 + k).toNat))))) F dX8_goesWell_55 sh_14 (by first | decide | assumption) (by first | omega | exact hI _) (by first | omega | exact hI _) (by rw [e_9]; exact mset_eq _ _ _ _) ?_
          refine ok_bipush F dX8_goesWell_56 rfl ?_
          refine ok_icmp_le F 63 dX8_goesWell_58 (by decide) (by first | omega | exact hI _) (by first | omega | exact hI _) (fun c_11 => ?_) (fun c_11 => ?_)
          · refine ok_iinc (lv' := [(2, pI (k + 1)), (0, pR 0), (1, pI d)]) F dX8_goesWell_63 2 rfl (by decide) rfl ?_
            refine ok_goto F 6 dX8_goesWell_66 (by decide) ?_
            refine ok_lvp [1, 2, 0] (lv' := [(0, pR 0), (1, pI d), (2, pI (k + 1))]) rfl ?_
            refine ih_6 _ ?_ (k + 1) m_8 ?_ rfl
            · omega
            · refine ⟨by omega, by omega, fun a ha => by rw [e_9, mset_nka ha]; exact hF a ha, fun j hj => ?_, fun j hj => ?_⟩
              · rw [e_9]
                by_cases e : j = k.toNat
                · subst e; rw [mset_eq, if_pos (by omega), a5, ← s3]
                · rw [mset_ne (fun q => e q.2), hw j hj]; by_cases g : (j : Int) < k
                  · rw [if_pos g, if_pos (by omega)]
                  · rw [if_neg g, if_neg (by omega)]
              · by_cases e : (j : Int) < k
                · exact hno j e
                · rw [show j = k.toNat by omega, s3]; omega
          · refine ok_iconst F dX8_goesWell_61 ?_
            refine ok_zret F G dX8_goesWell_62 (by first | rfl | exact zb_nar) ?_
            refine ⟨_, rfl, fun a c0 c1 c2 c3 c4 c5 c6 => by rw [e_9, mset_nka c4]; exact hF a c4, fun j hj => by rw [e_9, mset_nk (by decide), hF 0 (by decide)], ?_⟩
            have hany : anyN (fun k => decide (0 < mem 19 k) && decide (99 < mem 1 (11 + k) + mem 19 k * mem 1 (35 + k))) (mem 1 0).toNat = true := anyN_of (k := k.toNat) (by omega) (by
              show (decide (0 < mem 19 k.toNat) && decide (99 < mem 1 (11 + k.toNat) + mem 19 k.toNat * mem 1 (35 + k.toNat))) = true
              rw [s3, decide_eq_true (by omega), decide_eq_true (by omega)]; rfl)
            rw [if_neg (by unfold wellB; rw [hany, Bool.not_true, Bool.false_and]; decide)]
  refine ok_lvp [1, 2, 0] (lv' := [(0, pR 0), (1, pI d), (2, pI 0)]) rfl ?_
  refine hL_6 _ 0 m_1 ?_ rfl
  refine ⟨by omega, by omega, fun a ha => cpyN_cell eW ha, fun j hj => ?_, fun j hj => by omega⟩
  rw [if_neg (by omega), eW]
  unfold cpyN
  rw [if_pos (by omega), show 11 + (j - 0) = 11 + j by omega]
