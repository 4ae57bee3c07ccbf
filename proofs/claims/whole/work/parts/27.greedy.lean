/-! the reference: by the greatest first -/
/-- what is left and how many pieces, by the first kinds from the greatest on -/
def grL (v c : Nat → Nat) : Nat → Nat → Nat → Nat × Nat
  | 0, l, n => (l, n)
  | k + 1, l, n => grL v c k (l - min (c k) (l / v k) * v k) (n + min (c k) (l / v k))
def greedF (v c : Nat → Nat) (n a : Nat) : Int := if (grL v c n a 0).1 = 0 then ((grL v c n a 0).2 : Int) else 1000000
/-- of the first n amounts for which there is change, but that this doesn't come to by as few: the least, how many -/
def grdF (v c : Nat → Nat) (n : Nat) : Nat → Int × Int
  | 0 => (-2, 0)
  | a + 1 => if fewT v c n a < 1000000 ∧ fewT v c n a < greedF v c n a then ((if (grdF v c n a).1 = -2 then (a : Int) else (grdF v c n a).1), (grdF v c n a).2 + 1) else grdF v c n a
theorem grdF_s (v c : Nat → Nat) (n : Nat) {k : Int} (h : 0 ≤ k) : grdF v c n (k + 1).toNat = if fewT v c n k.toNat < 1000000 ∧ fewT v c n k.toNat < greedF v c n k.toNat then ((if (grdF v c n k.toNat).1 = -2 then k else (grdF v c n k.toNat).1), (grdF v c n k.toNat).2 + 1) else grdF v c n k.toNat := by
  have e : ((k.toNat : Nat) : Int) = k := by omega
  rw [show (k + 1).toNat = k.toNat + 1 by omega]
  show (if fewT v c n k.toNat < 1000000 ∧ fewT v c n k.toNat < greedF v c n k.toNat then ((if (grdF v c n k.toNat).1 = -2 then ((k.toNat : Nat) : Int) else (grdF v c n k.toNat).1), (grdF v c n k.toNat).2 + 1) else grdF v c n k.toNat) = _
  rw [e]
theorem grL_bd (v c : Nat → Nat) : ∀ k l n, (grL v c k l n).2 ≤ n + l
  | 0, l, n => Nat.le_add_right _ _
  | k + 1, l, n => by
    show (grL v c k (l - min (c k) (l / v k) * v k) (n + min (c k) (l / v k))).2 ≤ n + l
    have ih := grL_bd v c k (l - min (c k) (l / v k) * v k) (n + min (c k) (l / v k))
    by_cases hv : v k = 0
    · rw [hv, Nat.div_zero] at ih ⊢
      simp only [Nat.min_zero, Nat.zero_mul, Nat.sub_zero, Nat.add_zero] at ih ⊢
      exact ih
    · have h1 : min (c k) (l / v k) ≤ min (c k) (l / v k) * v k := Nat.le_mul_of_pos_right _ (by omega)
      have h2 : min (c k) (l / v k) * v k ≤ l / v k * v k := Nat.mul_le_mul_right _ (Nat.min_le_right _ _)
      have h3 := Nat.div_mul_le_self l (v k)
      omega
theorem greedF_bd (v c : Nat → Nat) (n a : Nat) : 0 ≤ greedF v c n a ∧ greedF v c n a ≤ a + 1000000 := by
  have h := grL_bd v c n a 0
  unfold greedF
  split <;> omega
theorem grL_s (v c : Nat → Nat) (k l n : Nat) : grL v c (k + 1) l n = grL v c k (l - min (c k) (l / v k) * v k) (n + min (c k) (l / v k)) := rfl
theorem dX8_greedily_0 : decode cX8_greedily 0 = .ok (.iload_n 1, 1) := by decide +kernel
theorem dX8_greedily_1 : decode cX8_greedily 1 = .ok (.istore_n 2, 1) := by decide +kernel
theorem dX8_greedily_2 : decode cX8_greedily 2 = .ok (.iconst 0, 1) := by decide +kernel
theorem dX8_greedily_3 : decode cX8_greedily 3 = .ok (.istore_n 3, 1) := by decide +kernel
theorem dX8_greedily_4 : decode cX8_greedily 4 = .ok (.aload_n 0, 1) := by decide +kernel
theorem dX8_greedily_5 : decode cX8_greedily 5 = .ok (.getfield 9, 3) := by decide +kernel
theorem dX8_greedily_8 : decode cX8_greedily 8 = .ok (.iconst 0, 1) := by decide +kernel
theorem dX8_greedily_9 : decode cX8_greedily 9 = .ok (.iaload, 1) := by decide +kernel
theorem dX8_greedily_10 : decode cX8_greedily 10 = .ok (.iconst 1, 1) := by decide +kernel
theorem dX8_greedily_11 : decode cX8_greedily 11 = .ok (.isub, 1) := by decide +kernel
theorem dX8_greedily_12 : decode cX8_greedily 12 = .ok (.istore 4, 2) := by decide +kernel
theorem dX8_greedily_14 : decode cX8_greedily 14 = .ok (.iload 4, 2) := by decide +kernel
theorem dX8_greedily_16 : decode cX8_greedily 16 = .ok (.ifCond .lt 49, 3) := by decide +kernel
theorem dX8_greedily_19 : decode cX8_greedily 19 = .ok (.aload_n 0, 1) := by decide +kernel
theorem dX8_greedily_20 : decode cX8_greedily 20 = .ok (.getfield 9, 3) := by decide +kernel
theorem dX8_greedily_23 : decode cX8_greedily 23 = .ok (.bipush 11, 2) := by decide +kernel
theorem dX8_greedily_25 : decode cX8_greedily 25 = .ok (.iload 4, 2) := by decide +kernel
theorem dX8_greedily_27 : decode cX8_greedily 27 = .ok (.iadd, 1) := by decide +kernel
theorem dX8_greedily_28 : decode cX8_greedily 28 = .ok (.iaload, 1) := by decide +kernel
theorem dX8_greedily_29 : decode cX8_greedily 29 = .ok (.iload_n 2, 1) := by decide +kernel
theorem dX8_greedily_30 : decode cX8_greedily 30 = .ok (.aload_n 0, 1) := by decide +kernel
theorem dX8_greedily_31 : decode cX8_greedily 31 = .ok (.iload 4, 2) := by decide +kernel
theorem dX8_greedily_33 : decode cX8_greedily 33 = .ok (.invokevirtual 191, 3) := by decide +kernel
theorem dX8_greedily_36 : decode cX8_greedily 36 = .ok (.idiv, 1) := by decide +kernel
theorem dX8_greedily_37 : decode cX8_greedily 37 = .ok (.invokestatic 128, 3) := by decide +kernel
theorem dX8_greedily_40 : decode cX8_greedily 40 = .ok (.istore 5, 2) := by decide +kernel
theorem dX8_greedily_42 : decode cX8_greedily 42 = .ok (.iload_n 3, 1) := by decide +kernel
theorem dX8_greedily_43 : decode cX8_greedily 43 = .ok (.iload 5, 2) := by decide +kernel
theorem dX8_greedily_45 : decode cX8_greedily 45 = .ok (.iadd, 1) := by decide +kernel
theorem dX8_greedily_46 : decode cX8_greedily 46 = .ok (.istore_n 3, 1) := by decide +kernel
theorem dX8_greedily_47 : decode cX8_greedily 47 = .ok (.iload_n 2, 1) := by decide +kernel
theorem dX8_greedily_48 : decode cX8_greedily 48 = .ok (.iload 5, 2) := by decide +kernel
theorem dX8_greedily_50 : decode cX8_greedily 50 = .ok (.aload_n 0, 1) := by decide +kernel
theorem dX8_greedily_51 : decode cX8_greedily 51 = .ok (.iload 4, 2) := by decide +kernel
theorem dX8_greedily_53 : decode cX8_greedily 53 = .ok (.invokevirtual 191, 3) := by decide +kernel
theorem dX8_greedily_56 : decode cX8_greedily 56 = .ok (.imul, 1) := by decide +kernel
theorem dX8_greedily_57 : decode cX8_greedily 57 = .ok (.isub, 1) := by decide +kernel
theorem dX8_greedily_58 : decode cX8_greedily 58 = .ok (.istore_n 2, 1) := by decide +kernel
theorem dX8_greedily_59 : decode cX8_greedily 59 = .ok (.iinc 4 (-1), 3) := by decide +kernel
theorem dX8_greedily_62 : decode cX8_greedily 62 = .ok (.goto (-48), 3) := by decide +kernel
theorem dX8_greedily_65 : decode cX8_greedily 65 = .ok (.iload_n 2, 1) := by decide +kernel
theorem dX8_greedily_66 : decode cX8_greedily 66 = .ok (.ifCond .ne 7, 3) := by decide +kernel
theorem dX8_greedily_69 : decode cX8_greedily 69 = .ok (.iload_n 3, 1) := by decide +kernel
theorem dX8_greedily_70 : decode cX8_greedily 70 = .ok (.goto 5, 3) := by decide +kernel
theorem dX8_greedily_73 : decode cX8_greedily 73 = .ok (.ldc 197, 2) := by decide +kernel
theorem dX8_greedily_75 : decode cX8_greedily 75 = .ok (.ireturn, 1) := by decide +kernel
set_option maxHeartbeats 4000000 in
set_option maxRecDepth 100000 in
theorem m_X8_greedily (l : Launch) (a : Int) (mem : Mem) (ha : 0 ≤ a ∧ a ≤ 2500) (hN : 0 ≤ mem 1 0 ∧ mem 1 0 ≤ 8) (hVl : ∀ i : Nat, (i : Int) < mem 1 0 → 1 ≤ mem 1 (3 + i) ∧ mem 1 (3 + i) ≤ 500) (hTl : ∀ k : Nat, k < 8 → 0 ≤ mem 1 (11 + k) ∧ mem 1 (11 + k) ≤ 99) : Ret shp l yX8_greedily cX8_greedily 6 (some .int) 1 [pR 0, pI a] mem (fun rv mv => rv = some (pI (greedF (fun i => (mem 1 (3 + i)).toNat) (fun i => (mem 1 (11 + i)).toNat) (mem 1 0).toNat a.toNat)) ∧ mem = mv) := by
  refine ret_of (by decide +kernel) (Nat.le_of_ble_eq_true rfl) (fun X hX F G => ?_)
  show Ok shp X 6 0 [(0, pR 0), (1, pI a)] [] mem
  refine ok_iload_n F dX8_greedily_0 1 rfl ?_
  refine ok_istore_n (lv' := [(2, pI a), (0, pR 0), (1, pI a)]) F dX8_greedily_1 (by decide) rfl ?_
  refine ok_iconst F dX8_greedily_2 ?_
  refine ok_istore_n (lv' := [(3, pI 0), (2, pI a), (0, pR 0), (1, pI a)]) F dX8_greedily_3 (by decide) rfl ?_
  refine ok_aload_n F dX8_greedily_4 2 rfl ?_
  refine ok_getr F dX8_greedily_5 kF_X8_9 sh_0 rfl ?_
  refine ok_iconst F dX8_greedily_8 ?_
  refine ok_iald (v := mem 1 0) F dX8_greedily_9 sh_1 (by first | decide | assumption) (by omega) (by omega) rfl ?_
  refine ok_iconst F dX8_greedily_10 ?_
  refine ok_isub F dX8_greedily_11 ?_
  refine ok_istore (lv' := [(4, pI ((mem 1 0) - 1)), (3, pI 0), (2, pI a), (0, pR 0), (1, pI a)]) F dX8_greedily_12 (by decide) rfl ?_
  have hL_14 : ∀ (n_14 : Nat) (L : Int) (n : Int) (k : Int), (-1 ≤ k ∧ k < mem 1 0 ∧ 0 ≤ L ∧ 0 ≤ n ∧ n + L ≤ a ∧ grL (fun i => (mem 1 (3 + i)).toNat) (fun i => (mem 1 (11 + i)).toNat) (mem 1 0).toNat a.toNat 0 = grL (fun i => (mem 1 (3 + i)).toNat) (fun i => (mem 1 (11 + i)).toNat) (k + 1).toNat L.toNat n.toNat) → (k + 1).toNat = n_14 → Ok shp X 6 14 [(0, pR 0), (1, pI a), (2, pI L), (3, pI n), (4, pI k)] [] mem := by
    intro n_14
    induction n_14 using Nat.strongRecOn with
    | _ n_14 ih_14 =>
      intro L n k hI_14 hn_14
      obtain ⟨hk0, hk1, hL0, hn0, hnL, hg⟩ := hI_14
      refine ok_iload F dX8_greedily_14 4 rfl ?_
      refine ok_if_lt F 65 dX8_greedily_16 (by decide) (by omega) (fun c_1 => ?_) (fun c_1 => ?_)
      · refine ok_iload_n F dX8_greedily_65 2 rfl ?_
        refine ok_if_ne F 73 dX8_greedily_66 (by decide) (by omega) (fun c_2 => ?_) (fun c_2 => ?_)
        · refine ok_ldc (n := 1000000) F dX8_greedily_73 kK_X8_197 rfl ?_
          refine ok_iret F G dX8_greedily_75 ?_
          have ek : (k + 1).toNat = 0 := by omega
          rw [ek] at hg
          refine ⟨?_, rfl⟩
          rw [greedF, hg]
          show _ = some (pI (if L.toNat = 0 then ((n.toNat : Nat) : Int) else 1000000))
          first | (rw [if_pos (by omega), show ((n.toNat : Nat) : Int) = n by omega]; done) | (rw [if_neg (by omega)]; done)
        · refine ok_iload_n F dX8_greedily_69 3 rfl ?_
          refine ok_goto F 75 dX8_greedily_70 (by decide) ?_
          refine ok_iret F G dX8_greedily_75 ?_
          have ek : (k + 1).toNat = 0 := by omega
          rw [ek] at hg
          refine ⟨?_, rfl⟩
          rw [greedF, hg]
          show _ = some (pI (if L.toNat = 0 then ((n.toNat : Nat) : Int) else 1000000))
          first | (rw [if_pos (by omega), show ((n.toNat : Nat) : Int) = n by omega]; done) | (rw [if_neg (by omega)]; done)
      · have q1 := hTl k.toNat (by omega)
        rw [show 11 + k.toNat = (11 + k).toNat by omega] at q1
        have q2 := hVl k.toNat (by omega)
        rw [show 3 + k.toNat = (3 + k).toNat by omega] at q2
        refine ok_aload_n F dX8_greedily_19 0 rfl ?_
        refine ok_getr F dX8_greedily_20 kF_X8_9 sh_0 rfl ?_
        refine ok_bipush F dX8_greedily_23 rfl ?_
        refine ok_iload F dX8_greedily_25 4 rfl ?_
        refine ok_iadd F dX8_greedily_27 ?_
        refine ok_iald (v := mem 1 ((11 + k).toNat)) F dX8_greedily_28 sh_1 (by first | decide | assumption) (by omega) (by omega) rfl ?_
        refine ok_iload_n F dX8_greedily_29 2 rfl ?_
        refine ok_aload_n F dX8_greedily_30 0 rfl ?_
        refine ok_iload F dX8_greedily_31 4 rfl ?_
        refine ok_callv F [pI k] dX8_greedily_33 kM_X8_value kI_X8_value kV_X8_value kL_X8_191 (ci := 8) rfl sh_0 rfl (by decide) (Nat.le_of_ble_eq_true rfl) rfl (m_X8_value _ k mem (by omega)) ?_
        rintro _ _ ⟨rfl, rfl⟩
        obtain ⟨vk, hvd⟩ : ∃ x, x = (fun i => (mem 1 (3 + i)).toNat) k.toNat := ⟨_, rfl⟩
        have hvk : mem 1 (3 + k).toNat = (vk : Int) := by rw [hvd]; show _ = (((mem 1 (3 + k.toNat)).toNat : Nat) : Int); rw [show 3 + k.toNat = (3 + k).toNat by omega]; omega
        obtain ⟨qd, hqd⟩ : ∃ x, x = L.toNat / vk := ⟨_, rfl⟩
        have hdv : L.tdiv (mem 1 (3 + k).toNat) = (qd : Int) := by rw [hvk, Int.tdiv_eq_ediv_of_nonneg hL0, hqd, Int.natCast_ediv, show ((L.toNat : Nat) : Int) = L by omega]
        have hdm : qd * vk ≤ L.toNat := by rw [hqd]; exact Nat.div_mul_le_self _ _
        have hdl : qd ≤ L.toNat := by rw [hqd]; exact Nat.div_le_self _ _
        obtain ⟨z, hzd0⟩ : ∃ x, x = min (mem 1 (11 + k).toNat).toNat qd := ⟨_, rfl⟩
        have hz : min (mem 1 (11 + k).toNat) (L.tdiv (mem 1 (3 + k).toNat)) = (z : Int) := by rw [hdv]; omega
        have hzv : z * vk ≤ qd * vk := Nat.mul_le_mul_right vk (by omega)
        have hzz : z ≤ z * vk := Nat.le_mul_of_pos_right z (by omega)
        have hzi : (z : Int) * mem 1 (3 + k).toNat = ((z * vk : Nat) : Int) := by rw [hvk, Int.natCast_mul]
        have hzd : z = min ((fun i => (mem 1 (11 + i)).toNat) k.toNat) (L.toNat / (fun i => (mem 1 (3 + i)).toNat) k.toNat) := by rw [hzd0, hqd, hvd]; show min (mem 1 (11 + k).toNat).toNat _ = min (mem 1 (11 + k.toNat)).toNat _; rw [show 11 + k.toNat = (11 + k).toNat by omega]
        have hmz : min (mem 1 (11 + k).toNat) (L.tdiv (mem 1 (3 + k).toNat)) * mem 1 (3 + k).toNat = ((z * vk : Nat) : Int) := by rw [hz, hzi]
        refine ok_idiv F dX8_greedily_36 (by omega) (by omega) (by omega) ?_
        refine ok_mmin F dX8_greedily_37 kL_X8_128 kS_J9_min_7cf53 kM_J9_min_7cf53.2.1 kM_J9_min_7cf53.2.2.1 (by omega) (by omega) (by decide) (Nat.le_of_ble_eq_true rfl) ?_
        refine ok_istore (lv' := [(5, pI (min (mem 1 ((11 + k).toNat)) (L.tdiv (mem 1 (3 + k).toNat)))), (0, pR 0), (1, pI a), (2, pI L), (3, pI n), (4, pI k)]) F dX8_greedily_40 (by decide) rfl ?_
        refine ok_iload_n F dX8_greedily_42 4 rfl ?_
        refine ok_iload F dX8_greedily_43 0 rfl ?_
        refine ok_iadd F dX8_greedily_45 ?_
        refine ok_istore_n (lv' := [(3, pI (n + (min (mem 1 ((11 + k).toNat)) (L.tdiv (mem 1 (3 + k).toNat))))), (5, pI (min (mem 1 ((11 + k).toNat)) (L.tdiv (mem 1 (3 + k).toNat)))), (0, pR 0), (1, pI a), (2, pI L), (4, pI k)]) F dX8_greedily_46 (by decide) rfl ?_
        refine ok_iload_n F dX8_greedily_47 4 rfl ?_
        refine ok_iload F dX8_greedily_48 1 rfl ?_
        refine ok_aload_n F dX8_greedily_50 2 rfl ?_
        refine ok_iload F dX8_greedily_51 5 rfl ?_
        refine ok_callv F [pI k] dX8_greedily_53 kM_X8_value kI_X8_value kV_X8_value kL_X8_191 (ci := 8) rfl sh_0 rfl (by decide) (Nat.le_of_ble_eq_true rfl) rfl (m_X8_value _ k mem (by omega)) ?_
        rintro _ _ ⟨rfl, rfl⟩
        refine ok_imul F dX8_greedily_56 ?_
        refine ok_isub F dX8_greedily_57 ?_
        refine ok_istore_n (lv' := [(2, pI (L - ((min (mem 1 ((11 + k).toNat)) (L.tdiv (mem 1 (3 + k).toNat))) * (mem 1 (3 + k).toNat)))), (3, pI (n + (min (mem 1 ((11 + k).toNat)) (L.tdiv (mem 1 (3 + k).toNat))))), (5, pI (min (mem 1 ((11 + k).toNat)) (L.tdiv (mem 1 (3 + k).toNat)))), (0, pR 0), (1, pI a), (4, pI k)]) F dX8_greedily_58 (by decide) rfl ?_
        refine ok_iinc (lv' := [(4, pI (k + (-1))), (2, pI (L - ((min (mem 1 ((11 + k).toNat)) (L.tdiv (mem 1 (3 + k).toNat))) * (mem 1 (3 + k).toNat)))), (3, pI (n + (min (mem 1 ((11 + k).toNat)) (L.tdiv (mem 1 (3 + k).toNat))))), (5, pI (min (mem 1 ((11 + k).toNat)) (L.tdiv (mem 1 (3 + k).toNat)))), (0, pR 0), (1, pI a)]) F dX8_greedily_59 5 rfl (by decide) rfl ?_
        refine ok_goto F 14 dX8_greedily_62 (by decide) ?_
        refine ok_lvp [4, 5, 1, 2, 0] (lv' := [(0, pR 0), (1, pI a), (2, pI (L - ((min (mem 1 ((11 + k).toNat)) (L.tdiv (mem 1 (3 + k).toNat))) * (mem 1 (3 + k).toNat)))), (3, pI (n + (min (mem 1 ((11 + k).toNat)) (L.tdiv (mem 1 (3 + k).toNat))))), (4, pI (k + (-1)))]) rfl ?_
        refine ih_14 _ ?_ (L - ((min (mem 1 ((11 + k).toNat)) (L.tdiv (mem 1 (3 + k).toNat))) * (mem 1 (3 + k).toNat))) (n + (min (mem 1 ((11 + k).toNat)) (L.tdiv (mem 1 (3 + k).toNat)))) (k + (-1)) ?_ rfl
        · omega
        · refine ⟨by omega, by omega, by omega, by omega, by omega, ?_⟩
          rw [hg, show (k + 1).toNat = k.toNat + 1 by omega, grL_s, show (k + -1 + 1).toNat = k.toNat by omega]
          rw [hz, show (L - (z : Int) * mem 1 (3 + k).toNat).toNat = L.toNat - z * vk by omega, show (n + (z : Int)).toNat = n.toNat + z by omega, hzd, hvd]
  refine ok_lvp [3, 4, 2, 1, 0] (lv' := [(0, pR 0), (1, pI a), (2, pI a), (3, pI 0), (4, pI ((mem 1 0) - 1))]) rfl ?_
  refine hL_14 _ a 0 ((mem 1 0) - 1) ?_ rfl
  exact ⟨by omega, by omega, by omega, by omega, by omega, by rw [show (mem 1 0 - 1 + 1).toNat = (mem 1 0).toNat by omega]; rfl⟩
theorem dX8_greedy_0 : decode cX8_greedy 0 = .ok (.iload_n 1, 1) := by decide +kernel
theorem dX8_greedy_1 : decode cX8_greedy 1 = .ok (.i2l, 1) := by decide +kernel
theorem dX8_greedy_2 : decode cX8_greedy 2 = .ok (.lconst 0, 1) := by decide +kernel
theorem dX8_greedy_3 : decode cX8_greedy 3 = .ok (.lconst 1, 1) := by decide +kernel
theorem dX8_greedy_4 : decode cX8_greedy 4 = .ok (.invokestatic 100, 3) := by decide +kernel
theorem dX8_greedy_7 : decode cX8_greedy 7 = .ok (.ifCond .ne 5, 3) := by decide +kernel
theorem dX8_greedy_10 : decode cX8_greedy 10 = .ok (.iconst (-1), 1) := by decide +kernel
theorem dX8_greedy_11 : decode cX8_greedy 11 = .ok (.ireturn, 1) := by decide +kernel
theorem dX8_greedy_12 : decode cX8_greedy 12 = .ok (.aload_n 0, 1) := by decide +kernel
theorem dX8_greedy_13 : decode cX8_greedy 13 = .ok (.aload_n 0, 1) := by decide +kernel
theorem dX8_greedy_14 : decode cX8_greedy 14 = .ok (.getfield 9, 3) := by decide +kernel
theorem dX8_greedy_17 : decode cX8_greedy 17 = .ok (.bipush 11, 2) := by decide +kernel
theorem dX8_greedy_19 : decode cX8_greedy 19 = .ok (.aload_n 0, 1) := by decide +kernel
theorem dX8_greedy_20 : decode cX8_greedy 20 = .ok (.getfield 9, 3) := by decide +kernel
theorem dX8_greedy_23 : decode cX8_greedy 23 = .ok (.iconst 0, 1) := by decide +kernel
theorem dX8_greedy_24 : decode cX8_greedy 24 = .ok (.iaload, 1) := by decide +kernel
theorem dX8_greedy_25 : decode cX8_greedy 25 = .ok (.sipush 2500, 3) := by decide +kernel
theorem dX8_greedy_28 : decode cX8_greedy 28 = .ok (.invokevirtual 202, 3) := by decide +kernel
theorem dX8_greedy_31 : decode cX8_greedy 31 = .ok (.bipush (-2), 2) := by decide +kernel
theorem dX8_greedy_33 : decode cX8_greedy 33 = .ok (.istore_n 2, 1) := by decide +kernel
theorem dX8_greedy_34 : decode cX8_greedy 34 = .ok (.iconst 0, 1) := by decide +kernel
theorem dX8_greedy_35 : decode cX8_greedy 35 = .ok (.istore_n 3, 1) := by decide +kernel
theorem dX8_greedy_36 : decode cX8_greedy 36 = .ok (.iconst 0, 1) := by decide +kernel
theorem dX8_greedy_37 : decode cX8_greedy 37 = .ok (.istore 4, 2) := by decide +kernel
theorem dX8_greedy_39 : decode cX8_greedy 39 = .ok (.iload 4, 2) := by decide +kernel
theorem dX8_greedy_41 : decode cX8_greedy 41 = .ok (.sipush 2500, 3) := by decide +kernel
theorem dX8_greedy_44 : decode cX8_greedy 44 = .ok (.if_icmp .gt 65, 3) := by decide +kernel
theorem dX8_greedy_47 : decode cX8_greedy 47 = .ok (.aload_n 0, 1) := by decide +kernel
theorem dX8_greedy_48 : decode cX8_greedy 48 = .ok (.aload_n 0, 1) := by decide +kernel
theorem dX8_greedy_49 : decode cX8_greedy 49 = .ok (.getfield 9, 3) := by decide +kernel
theorem dX8_greedy_52 : decode cX8_greedy 52 = .ok (.iconst 0, 1) := by decide +kernel
theorem dX8_greedy_53 : decode cX8_greedy 53 = .ok (.iaload, 1) := by decide +kernel
theorem dX8_greedy_54 : decode cX8_greedy 54 = .ok (.iload 4, 2) := by decide +kernel
theorem dX8_greedy_56 : decode cX8_greedy 56 = .ok (.invokevirtual 206, 3) := by decide +kernel
theorem dX8_greedy_59 : decode cX8_greedy 59 = .ok (.ifCond .eq 44, 3) := by decide +kernel
theorem dX8_greedy_62 : decode cX8_greedy 62 = .ok (.aload_n 0, 1) := by decide +kernel
theorem dX8_greedy_63 : decode cX8_greedy 63 = .ok (.iload 4, 2) := by decide +kernel
theorem dX8_greedy_65 : decode cX8_greedy 65 = .ok (.invokevirtual 350, 3) := by decide +kernel
theorem dX8_greedy_68 : decode cX8_greedy 68 = .ok (.aload_n 0, 1) := by decide +kernel
theorem dX8_greedy_69 : decode cX8_greedy 69 = .ok (.getfield 33, 3) := by decide +kernel
theorem dX8_greedy_72 : decode cX8_greedy 72 = .ok (.aload_n 0, 1) := by decide +kernel
theorem dX8_greedy_73 : decode cX8_greedy 73 = .ok (.getfield 9, 3) := by decide +kernel
theorem dX8_greedy_76 : decode cX8_greedy 76 = .ok (.iconst 0, 1) := by decide +kernel
theorem dX8_greedy_77 : decode cX8_greedy 77 = .ok (.iaload, 1) := by decide +kernel
theorem dX8_greedy_78 : decode cX8_greedy 78 = .ok (.iload 4, 2) := by decide +kernel
theorem dX8_greedy_80 : decode cX8_greedy 80 = .ok (.invokestatic 194, 3) := by decide +kernel
theorem dX8_greedy_83 : decode cX8_greedy 83 = .ok (.iaload, 1) := by decide +kernel
theorem dX8_greedy_84 : decode cX8_greedy 84 = .ok (.if_icmp .le 19, 3) := by decide +kernel
theorem dX8_greedy_87 : decode cX8_greedy 87 = .ok (.iload_n 2, 1) := by decide +kernel
theorem dX8_greedy_88 : decode cX8_greedy 88 = .ok (.bipush (-2), 2) := by decide +kernel
theorem dX8_greedy_90 : decode cX8_greedy 90 = .ok (.if_icmp .ne 8, 3) := by decide +kernel
theorem dX8_greedy_93 : decode cX8_greedy 93 = .ok (.iload 4, 2) := by decide +kernel
theorem dX8_greedy_95 : decode cX8_greedy 95 = .ok (.goto 4, 3) := by decide +kernel
theorem dX8_greedy_98 : decode cX8_greedy 98 = .ok (.iload_n 2, 1) := by decide +kernel
theorem dX8_greedy_99 : decode cX8_greedy 99 = .ok (.istore_n 2, 1) := by decide +kernel
theorem dX8_greedy_100 : decode cX8_greedy 100 = .ok (.iinc 3 1, 3) := by decide +kernel
theorem dX8_greedy_103 : decode cX8_greedy 103 = .ok (.iinc 4 1, 3) := by decide +kernel
theorem dX8_greedy_106 : decode cX8_greedy 106 = .ok (.goto (-67), 3) := by decide +kernel
theorem dX8_greedy_109 : decode cX8_greedy 109 = .ok (.iload_n 1, 1) := by decide +kernel
theorem dX8_greedy_110 : decode cX8_greedy 110 = .ok (.ifCond .ne 7, 3) := by decide +kernel
theorem dX8_greedy_113 : decode cX8_greedy 113 = .ok (.iload_n 2, 1) := by decide +kernel
theorem dX8_greedy_114 : decode cX8_greedy 114 = .ok (.goto 4, 3) := by decide +kernel
theorem dX8_greedy_117 : decode cX8_greedy 117 = .ok (.iload_n 3, 1) := by decide +kernel
theorem dX8_greedy_118 : decode cX8_greedy 118 = .ok (.ireturn, 1) := by decide +kernel
set_option maxHeartbeats 4000000 in
set_option maxRecDepth 100000 in
theorem m_X8_greedy (l : Launch) (w : Int) (mem : Mem) (hw : i32 w) (hN : 0 ≤ mem 1 0 ∧ mem 1 0 ≤ 8) (hVl : ∀ i : Nat, (i : Int) < mem 1 0 → 1 ≤ mem 1 (3 + i) ∧ mem 1 (3 + i) ≤ 500) (hTl : ∀ k : Nat, k < 8 → 0 ≤ mem 1 (11 + k) ∧ mem 1 (11 + k) ≤ 99) : Ret shp l yX8_greedy cX8_greedy 5 (some .int) 4 [pR 0, pI w] mem (fun rv mv => ∃ z, rv = some (pI z) ∧ Keep mem mv ∧ z = if 0 ≤ w ∧ w ≤ 1 then (if w = 0 then (grdF (fun i => (mem 1 (3 + i)).toNat) (fun i => (mem 1 (11 + i)).toNat) (mem 1 0).toNat 2501).1 else (grdF (fun i => (mem 1 (3 + i)).toNat) (fun i => (mem 1 (11 + i)).toNat) (mem 1 0).toNat 2501).2) else -1) := by
  refine ret_of (by decide +kernel) (Nat.le_of_ble_eq_true rfl) (fun X hX F G => ?_)
  show Ok shp X 5 0 [(0, pR 0), (1, pI w)] [] mem
  refine ok_iload_n F dX8_greedy_0 1 rfl ?_
  refine ok_i2l F dX8_greedy_1 (by omega) ?_
  refine ok_lconst (z := 0) F dX8_greedy_2 rfl ?_
  refine ok_lconst (z := 1) F dX8_greedy_3 rfl ?_
  refine ok_calls F [pL w, pL 0, pL 1] dX8_greedy_4 kM_X8_in kS_X8_in kL_X8_100 rfl (by decide) (Nat.le_of_ble_eq_true rfl) rfl (m_X8_in _ w 0 1 mem (by omega) (by omega) (by omega)) ?_
  rintro _ _ ⟨rfl, rfl⟩
  refine ok_if_ne F 12 dX8_greedy_7 (by decide) (by omega) (fun c_1 => ?_) (fun c_1 => ?_)
  · refine ok_aload_n F dX8_greedy_12 0 rfl ?_
    refine ok_aload_n F dX8_greedy_13 0 rfl ?_
    refine ok_getr F dX8_greedy_14 kF_X8_9 sh_0 rfl ?_
    refine ok_bipush F dX8_greedy_17 rfl ?_
    refine ok_aload_n F dX8_greedy_19 0 rfl ?_
    refine ok_getr F dX8_greedy_20 kF_X8_9 sh_0 rfl ?_
    refine ok_iconst F dX8_greedy_23 ?_
    refine ok_iald (v := mem 1 0) F dX8_greedy_24 sh_1 (by first | decide | assumption) (by omega) (by omega) rfl ?_
    refine ok_sipush F dX8_greedy_25 rfl ?_
    refine ok_callv F [pR 1, pI 11, pI (mem 1 0), pI 2500] dX8_greedy_28 kM_X8_laysFewest kI_X8_laysFewest kV_X8_laysFewest kL_X8_202 (ci := 8) rfl sh_0 rfl (by decide) (Nat.le_of_ble_eq_true rfl) rfl (m_X8_laysFewest _ 1 11 (mem 1 0) 2500 mem (459) (sh_1) (by decide) (by decide) (by decide) (by omega) (by omega) (by omega) (fun i hi => hVl i (by omega)) (fun i hi => ⟨(hTl i (by omega)).1, Int.le_trans (hTl i (by omega)).2 (by decide)⟩)) ?_
    rintro _ m_3 ⟨rfl, r_4⟩
    obtain ⟨hfr, hT0⟩ := id r_4
    have h1 := hfr 1 (by decide) (by decide)
    obtain ⟨mt, hmt⟩ : ∃ x, x = m_3 := ⟨_, rfl⟩
    have hT : ∀ x : Nat, x ≤ 2500 → m_3 8 (2501 * mem 1 0 + (x : Int)).toNat = fewT (fun i => (mem 1 (3 + i)).toNat) (fun i => (mem 1 (11 + i)).toNat) (mem 1 0).toNat x := fun x hx => by rw [show (2501 * mem 1 0 + (x : Int)).toNat = 2501 * (mem 1 0).toNat + x by omega]; exact hT0 _ (Nat.le_refl _) x hx
    refine ok_bipush F dX8_greedy_31 rfl ?_
    refine ok_istore_n (lv' := [(2, pI (-2)), (0, pR 0), (1, pI w)]) F dX8_greedy_33 (by decide) rfl ?_
    refine ok_iconst F dX8_greedy_34 ?_
    refine ok_istore_n (lv' := [(3, pI 0), (2, pI (-2)), (0, pR 0), (1, pI w)]) F dX8_greedy_35 (by decide) rfl ?_
    refine ok_iconst F dX8_greedy_36 ?_
    refine ok_istore (lv' := [(4, pI 0), (3, pI 0), (2, pI (-2)), (0, pR 0), (1, pI w)]) F dX8_greedy_37 (by decide) rfl ?_
    have hL_39 : ∀ (n_39 : Nat) (b : Int) (c : Int) (a : Int), (0 ≤ a ∧ a ≤ 2501 ∧ b = (grdF (fun i => (mem 1 (3 + i)).toNat) (fun i => (mem 1 (11 + i)).toNat) (mem 1 0).toNat a.toNat).1 ∧ c = (grdF (fun i => (mem 1 (3 + i)).toNat) (fun i => (mem 1 (11 + i)).toNat) (mem 1 0).toNat a.toNat).2 ∧ -2 ≤ b ∧ b ≤ 2500) → (2501 - a).toNat = n_39 → Ok shp X 5 39 [(0, pR 0), (1, pI w), (2, pI b), (3, pI c), (4, pI a)] [] m_3 := by
      intro n_39
      induction n_39 using Nat.strongRecOn with
      | _ n_39 ih_39 =>
        intro b c a hI_39 hn_39
        refine ok_iload F dX8_greedy_39 4 rfl ?_
        refine ok_sipush F dX8_greedy_41 rfl ?_
        refine ok_icmp_gt F 109 dX8_greedy_44 (by decide) (by omega) (by omega) (fun c_5 => ?_) (fun c_5 => ?_)
        · refine ok_iload_n F dX8_greedy_109 1 rfl ?_
          refine ok_if_ne F 117 dX8_greedy_110 (by decide) (by omega) (fun c_6 => ?_) (fun c_6 => ?_)
          · refine ok_iload_n F dX8_greedy_117 3 rfl ?_
            refine ok_iret F G dX8_greedy_118 ?_
            have ea : a.toNat = 2501 := by omega
            rw [ea] at hI_39
            refine ⟨_, rfl, Keep.f2 hfr, ?_⟩
            rw [if_pos (by omega)]
            first | (rw [if_pos (by omega)]; exact hI_39.2.2.1) | (rw [if_neg (by omega)]; exact hI_39.2.2.2.1)
          · refine ok_iload_n F dX8_greedy_113 2 rfl ?_
            refine ok_goto F 118 dX8_greedy_114 (by decide) ?_
            refine ok_iret F G dX8_greedy_118 ?_
            have ea : a.toNat = 2501 := by omega
            rw [ea] at hI_39
            refine ⟨_, rfl, Keep.f2 hfr, ?_⟩
            rw [if_pos (by omega)]
            first | (rw [if_pos (by omega)]; exact hI_39.2.2.1) | (rw [if_neg (by omega)]; exact hI_39.2.2.2.1)
        · have e := hT a.toNat (by omega)
          rw [show ((a.toNat : Nat) : Int) = a by omega] at e
          have hb := fewT_bd (fun i => (mem 1 (3 + i)).toNat) (fun i => (mem 1 (11 + i)).toNat) (mem 1 0).toNat a.toNat
          have hg := greedF_bd (fun i => (mem 1 (3 + i)).toNat) (fun i => (mem 1 (11 + i)).toNat) (mem 1 0).toNat a.toNat
          refine ok_aload_n F dX8_greedy_47 0 rfl ?_
          refine ok_aload_n F dX8_greedy_48 0 rfl ?_
          refine ok_getr F dX8_greedy_49 kF_X8_9 sh_0 rfl ?_
          refine ok_iconst F dX8_greedy_52 ?_
          refine ok_iald (v := mem 1 0) F dX8_greedy_53 sh_1 (by first | decide | assumption) (by omega) (by omega) (by rw [(r_4.1 1 (by decide) (by decide))] <;> rfl) ?_
          refine ok_iload F dX8_greedy_54 4 rfl ?_
          refine ok_callv F [pI (mem 1 0), pI a] dX8_greedy_56 kM_X8_hasChange kI_X8_hasChange kV_X8_hasChange kL_X8_206 (ci := 8) rfl sh_0 rfl (by decide) (Nat.le_of_ble_eq_true rfl) rfl (m_X8_hasChange _ (mem 1 0) a m_3 (by omega) (by omega) (by rw [e]; exact hb)) ?_
          rintro _ _ ⟨rfl, rfl⟩
          refine ok_if_eq F 103 dX8_greedy_59 (by decide) (by omega) (fun c_7 => ?_) (fun c_7 => ?_)
          · refine ok_iinc (lv' := [(4, pI (a + 1)), (0, pR 0), (1, pI w), (2, pI b), (3, pI c)]) F dX8_greedy_103 4 rfl (by decide) rfl ?_
            refine ok_goto F 39 dX8_greedy_106 (by decide) ?_
            refine ok_lvp [1, 2, 3, 4, 0] (lv' := [(0, pR 0), (1, pI w), (2, pI b), (3, pI c), (4, pI (a + 1))]) rfl ?_
            refine ih_39 _ ?_ b c (a + 1) ?_ rfl
            · omega
            · try rw [h1] at *
              refine ⟨by omega, by omega, ?_, ?_, by omega, by omega⟩
              all_goals rw [grdF_s _ _ _ hI_39.1]
              all_goals first
                | (rw [if_neg (by omega)]; first | exact hI_39.2.2.1 | exact hI_39.2.2.2.1)
                | (rw [if_pos (by omega)] <;> (try dsimp only) <;> omega)
          · refine ok_aload_n F dX8_greedy_62 0 rfl ?_
            refine ok_iload F dX8_greedy_63 4 rfl ?_
            refine ok_callv F [pI a] dX8_greedy_65 kM_X8_greedily kI_X8_greedily kV_X8_greedily kL_X8_350 (ci := 8) rfl sh_0 rfl (by decide) (Nat.le_of_ble_eq_true rfl) rfl (m_X8_greedily _ a m_3 (by omega) (by rw [h1]; exact hN) (by rw [h1]; exact hVl) (by rw [h1]; exact hTl)) ?_
            rintro _ _ ⟨rfl, rfl⟩
            have hg2 := hg
            rw [← h1] at hg2
            refine ok_aload_n F dX8_greedy_68 0 rfl ?_
            refine ok_getr F dX8_greedy_69 kF_X8_33 sh_0 rfl ?_
            refine ok_aload_n F dX8_greedy_72 0 rfl ?_
            refine ok_getr F dX8_greedy_73 kF_X8_9 sh_0 rfl ?_
            refine ok_iconst F dX8_greedy_76 ?_
            refine ok_iald (v := mem 1 0) F dX8_greedy_77 sh_1 (by first | decide | assumption) (by omega) (by omega) (by rw [(r_4.1 1 (by decide) (by decide))] <;> rfl) ?_
            refine ok_iload F dX8_greedy_78 4 rfl ?_
            refine ok_calls F [pI (mem 1 0), pI a] dX8_greedy_80 kM_X8_cell kS_X8_cell kL_X8_194 rfl (by decide) (Nat.le_of_ble_eq_true rfl) rfl (m_X8_cell _ (mem 1 0) a m_3) ?_
            rintro _ _ ⟨rfl, rfl⟩
            refine ok_iald (v := m_3 8 ((2501 * (mem 1 0) + a).toNat)) F dX8_greedy_83 sh_8 (by first | decide | assumption) (by omega) (by omega) rfl ?_
            refine ok_icmp_le F 103 dX8_greedy_84 (by decide) (by omega) (by omega) (fun c_8 => ?_) (fun c_8 => ?_)
            · refine ok_iinc (lv' := [(4, pI (a + 1)), (0, pR 0), (1, pI w), (2, pI b), (3, pI c)]) F dX8_greedy_103 4 rfl (by decide) rfl ?_
              refine ok_goto F 39 dX8_greedy_106 (by decide) ?_
              refine ok_lvp [1, 2, 3, 4, 0] (lv' := [(0, pR 0), (1, pI w), (2, pI b), (3, pI c), (4, pI (a + 1))]) rfl ?_
              refine ih_39 _ ?_ b c (a + 1) ?_ rfl
              · omega
              · try rw [h1] at *
                refine ⟨by omega, by omega, ?_, ?_, by omega, by omega⟩
                all_goals rw [grdF_s _ _ _ hI_39.1]
                all_goals first
                  | (rw [if_neg (by omega)]; first | exact hI_39.2.2.1 | exact hI_39.2.2.2.1)
                  | (rw [if_pos (by omega)] <;> (try dsimp only) <;> omega)
            · refine ok_iload_n F dX8_greedy_87 2 rfl ?_
              refine ok_bipush F dX8_greedy_88 rfl ?_
              refine ok_icmp_ne F 98 dX8_greedy_90 (by decide) (by omega) (by omega) (fun c_9 => ?_) (fun c_9 => ?_)
              · refine ok_iload_n F dX8_greedy_98 2 rfl ?_
                refine ok_istore_n (lv' := [(2, pI b), (0, pR 0), (1, pI w), (3, pI c), (4, pI a)]) F dX8_greedy_99 (by decide) rfl ?_
                refine ok_iinc (lv' := [(3, pI (c + 1)), (2, pI b), (0, pR 0), (1, pI w), (4, pI a)]) F dX8_greedy_100 3 rfl (by decide) rfl ?_
                refine ok_iinc (lv' := [(4, pI (a + 1)), (3, pI (c + 1)), (2, pI b), (0, pR 0), (1, pI w)]) F dX8_greedy_103 4 rfl (by decide) rfl ?_
                refine ok_goto F 39 dX8_greedy_106 (by decide) ?_
                refine ok_lvp [3, 4, 2, 1, 0] (lv' := [(0, pR 0), (1, pI w), (2, pI b), (3, pI (c + 1)), (4, pI (a + 1))]) rfl ?_
                refine ih_39 _ ?_ b (c + 1) (a + 1) ?_ rfl
                · omega
                · try rw [h1] at *
                  refine ⟨by omega, by omega, ?_, ?_, by omega, by omega⟩
                  all_goals rw [grdF_s _ _ _ hI_39.1]
                  all_goals first
                    | (rw [if_neg (by omega)]; first | exact hI_39.2.2.1 | exact hI_39.2.2.2.1)
                    | (rw [if_pos (by omega)] <;> (try dsimp only) <;> omega)
              · refine ok_iload F dX8_greedy_93 4 rfl ?_
                refine ok_goto F 99 dX8_greedy_95 (by decide) ?_
                refine ok_istore_n (lv' := [(2, pI a), (0, pR 0), (1, pI w), (3, pI c), (4, pI a)]) F dX8_greedy_99 (by decide) rfl ?_
                refine ok_iinc (lv' := [(3, pI (c + 1)), (2, pI a), (0, pR 0), (1, pI w), (4, pI a)]) F dX8_greedy_100 3 rfl (by decide) rfl ?_
                refine ok_iinc (lv' := [(4, pI (a + 1)), (3, pI (c + 1)), (2, pI a), (0, pR 0), (1, pI w)]) F dX8_greedy_103 4 rfl (by decide) rfl ?_
                refine ok_goto F 39 dX8_greedy_106 (by decide) ?_
                refine ok_lvp [3, 4, 2, 1, 0] (lv' := [(0, pR 0), (1, pI w), (2, pI a), (3, pI (c + 1)), (4, pI (a + 1))]) rfl ?_
                refine ih_39 _ ?_ a (c + 1) (a + 1) ?_ rfl
                · omega
                · try rw [h1] at *
                  refine ⟨by omega, by omega, ?_, ?_, by omega, by omega⟩
                  all_goals rw [grdF_s _ _ _ hI_39.1]
                  all_goals first
                    | (rw [if_neg (by omega)]; first | exact hI_39.2.2.1 | exact hI_39.2.2.2.1)
                    | (rw [if_pos (by omega)] <;> (try dsimp only) <;> omega)
    refine ok_lvp [3, 4, 2, 1, 0] (lv' := [(0, pR 0), (1, pI w), (2, pI (-2)), (3, pI 0), (4, pI 0)]) rfl ?_
    refine hL_39 _ (-2) 0 0 ?_ rfl
    exact ⟨by omega, by omega, rfl, rfl, by omega, by omega⟩
  · refine ok_iconst F dX8_greedy_10 ?_
    refine ok_iret F G dX8_greedy_11 ?_
    exact ⟨_, rfl, Keep.rf _, by rw [if_neg (by omega)]⟩
