/-! the reference: by the greatest first -/
/-- what is left and how many pieces, by the first kinds from the greatest on -/
def grL (v c : Nat → Nat) : Nat → Nat → Nat → Nat × Nat
  | 0, l, n => (l, n)
  | k + 1, l, n => grL v c k (l - min (c k) (l / v k) * v k) (n + min (c k) (l / v k))
def greedF (v c : Nat → Nat) (n a : Nat) : Int := if (grL v c n a 0).1 = 0 then ((grL v c n a 0).2 : Int) else 1000000
theorem grL_s (v c : Nat → Nat) (k l n : Nat) : grL v c (k + 1) l n = grL v c k (l - min (c k) (l / v k) * v k) (n + min (c k) (l / v k)) := rfl
theorem dX8_greedily_0 : decode cX8_greedily 0 = .ok (.iload_n 1, 1) := by decide +kernel
theorem dX8_greedily_1 : decode cX8_greedily 1 = .ok (.istore_n 2, 1) := by decide +kernel
theorem dX8_greedily_2 : decode cX8_greedily 2 = .ok (.iconst 0, 1) := by decide +kernel
theorem dX8_greedily_3 : decode cX8_greedily 3 = .ok (.istore_n 3, 1) := by decide +kernel
theorem dX8_greedily_4 : decode cX8_greedily 4 = .ok (.aload_n 0, 1) := by decide +kernel
theorem dX8_greedily_5 : decode cX8_greedily 5 = .ok (.getfield 9, 3) := by decide +kernel
theorem dX8_greedily_8 : decode cX8_greedily 8 = .ok (.iconst 0, 1) := by decide +kernel
theorem dX8_greedily_9 : decode cX8_greedily 9 = .ok (.iaload, 1) := by decide +kernel
theorem dX8_greedily_10 : decode cX8_greedily 10 = .ok (.iconst 1, 1) := by decide +kernel
theorem dX8_greedily_11 : decode cX8_greedily 11 = .ok (.isub, 1) := by decide +kernel
theorem dX8_greedily_12 : decode cX8_greedily 12 = .ok (.istore 4, 2) := by decide +kernel
theorem dX8_greedily_14 : decode cX8_greedily 14 = .ok (.iload 4, 2) := by decide +kernel
theorem dX8_greedily_16 : decode cX8_greedily 16 = .ok (.ifCond .lt 49, 3) := by decide +kernel
theorem dX8_greedily_19 : decode cX8_greedily 19 = .ok (.aload_n 0, 1) := by decide +kernel
theorem dX8_greedily_20 : decode cX8_greedily 20 = .ok (.getfield 9, 3) := by decide +kernel
theorem dX8_greedily_23 : decode cX8_greedily 23 = .ok (.bipush 11, 2) := by decide +kernel
theorem dX8_greedily_25 : decode cX8_greedily 25 = .ok (.iload 4, 2) := by decide +kernel
theorem dX8_greedily_27 : decode cX8_greedily 27 = .ok (.iadd, 1) := by decide +kernel
theorem dX8_greedily_28 : decode cX8_greedily 28 = .ok (.iaload, 1) := by decide +kernel
theorem dX8_greedily_29 : decode cX8_greedily 29 = .ok (.iload_n 2, 1) := by decide +kernel
theorem dX8_greedily_30 : decode cX8_greedily 30 = .ok (.aload_n 0, 1) := by decide +kernel
theorem dX8_greedily_31 : decode cX8_greedily 31 = .ok (.iload 4, 2) := by decide +kernel
theorem dX8_greedily_33 : decode cX8_greedily 33 = .ok (.invokevirtual 191, 3) := by decide +kernel
theorem dX8_greedily_36 : decode cX8_greedily 36 = .ok (.idiv, 1) := by decide +kernel
theorem dX8_greedily_37 : decode cX8_greedily 37 = .ok (.invokestatic 128, 3) := by decide +kernel
theorem dX8_greedily_40 : decode cX8_greedily 40 = .ok (.istore 5, 2) := by decide +kernel
theorem dX8_greedily_42 : decode cX8_greedily 42 = .ok (.iload_n 3, 1) := by decide +kernel
theorem dX8_greedily_43 : decode cX8_greedily 43 = .ok (.iload 5, 2) := by decide +kernel
theorem dX8_greedily_45 : decode cX8_greedily 45 = .ok (.iadd, 1) := by decide +kernel
theorem dX8_greedily_46 : decode cX8_greedily 46 = .ok (.istore_n 3, 1) := by decide +kernel
theorem dX8_greedily_47 : decode cX8_greedily 47 = .ok (.iload_n 2, 1) := by decide +kernel
theorem dX8_greedily_48 : decode cX8_greedily 48 = .ok (.iload 5, 2) := by decide +kernel
theorem dX8_greedily_50 : decode cX8_greedily 50 = .ok (.aload_n 0, 1) := by decide +kernel
theorem dX8_greedily_51 : decode cX8_greedily 51 = .ok (.iload 4, 2) := by decide +kernel
theorem dX8_greedily_53 : decode cX8_greedily 53 = .ok (.invokevirtual 191, 3) := by decide +kernel
theorem dX8_greedily_56 : decode cX8_greedily 56 = .ok (.imul, 1) := by decide +kernel
theorem dX8_greedily_57 : decode cX8_greedily 57 = .ok (.isub, 1) := by decide +kernel
theorem dX8_greedily_58 : decode cX8_greedily 58 = .ok (.istore_n 2, 1) := by decide +kernel
theorem dX8_greedily_59 : decode cX8_greedily 59 = .ok (.iinc 4 (-1), 3) := by decide +kernel
theorem dX8_greedily_62 : decode cX8_greedily 62 = .ok (.goto (-48), 3) := by decide +kernel
theorem dX8_greedily_65 : decode cX8_greedily 65 = .ok (.iload_n 2, 1) := by decide +kernel
theorem dX8_greedily_66 : decode cX8_greedily 66 = .ok (.ifCond .ne 7, 3) := by decide +kernel
theorem dX8_greedily_69 : decode cX8_greedily 69 = .ok (.iload_n 3, 1) := by decide +kernel
theorem dX8_greedily_70 : decode cX8_greedily 70 = .ok (.goto 5, 3) := by decide +kernel
theorem dX8_greedily_73 : decode cX8_greedily 73 = .ok (.ldc 197, 2) := by decide +kernel
theorem dX8_greedily_75 : decode cX8_greedily 75 = .ok (.ireturn, 1) := by decide +kernel
set_option maxHeartbeats 4000000 in
set_option maxRecDepth 100000 in
theorem m_X8_greedily (l : Launch) (a : Int) (mem : Mem) (ha : 0 ≤ a ∧ a ≤ 2500) (hN : 0 ≤ mem 1 0 ∧ mem 1 0 ≤ 8) (hVl : ∀ i : Nat, (i : Int) < mem 1 0 → 1 ≤ mem 1 (3 + i) ∧ mem 1 (3 + i) ≤ 500) (hTl : ∀ k : Nat, k < 8 → 0 ≤ mem 1 (11 + k) ∧ mem 1 (11 + k) ≤ 99) : Ret shp l yX8_greedily cX8_greedily 6 (some .int) 1 [pR 0, pI a] mem (fun rv mv => rv = some (pI (greedF (fun i => (mem 1 (3 + i)).toNat) (fun i => (mem 1 (11 + i)).toNat) (mem 1 0).toNat a.toNat)) ∧ mem = mv) := by
  refine ret_of (by decide +kernel) (Nat.le_of_ble_eq_true rfl) (fun X hX F G => ?_)
  show Ok shp X 6 0 [(0, pR 0), (1, pI a)] [] mem
  refine ok_iload_n F dX8_greedily_0 1 rfl ?_
  refine ok_istore_n (lv' := [(2, pI a), (0, pR 0), (1, pI a)]) F dX8_greedily_1 (by decide) rfl ?_
  refine ok_iconst F dX8_greedily_2 ?_
  refine ok_istore_n (lv' := [(3, pI 0), (2, pI a), (0, pR 0), (1, pI a)]) F dX8_greedily_3 (by decide) rfl ?_
  refine ok_aload_n F dX8_greedily_4 2 rfl ?_
  refine ok_getr F dX8_greedily_5 kF_X8_9 sh_0 rfl ?_
  refine ok_iconst F dX8_greedily_8 ?_
  refine ok_iald (v := mem 1 0) F dX8_greedily_9 sh_1 (by first | decide | assumption) (by omega) (by omega) rfl ?_
  refine ok_iconst F dX8_greedily_10 ?_
  refine ok_isub F dX8_greedily_11 ?_
  refine ok_istore (lv' := [(4, pI ((mem 1 0) - 1)), (3, pI 0), (2, pI a), (0, pR 0), (1, pI a)]) F dX8_greedily_12 (by decide) rfl ?_
  have hL_14 : ∀ (n_14 : Nat) (L : Int) (n : Int) (k : Int), (-1 ≤ k ∧ k < mem 1 0 ∧ 0 ≤ L ∧ 0 ≤ n ∧ n + L ≤ a ∧ grL (fun i => (mem 1 (3 + i)).toNat) (fun i => (mem 1 (11 + i)).toNat) (mem 1 0).toNat a.toNat 0 = grL (fun i => (mem 1 (3 + i)).toNat) (fun i => (mem 1 (11 + i)).toNat) (k + 1).toNat L.toNat n.toNat) → (k + 1).toNat = n_14 → Ok shp X 6 14 [(0, pR 0), (1, pI a), (2, pI L), (3, pI n), (4, pI k)] [] mem := by
    intro n_14
    induction n_14 using Nat.strongRecOn with
    | _ n_14 ih_14 =>
      intro L n k hI_14 hn_14
      obtain ⟨hk0, hk1, hL0, hn0, hnL, hg⟩ := hI_14
      refine ok_iload F dX8_greedily_14 4 rfl ?_
      refine ok_if_lt F 65 dX8_greedily_16 (by decide) (by omega) (fun c_1 => ?_) (fun c_1 => ?_)
      · refine ok_iload_n F dX8_greedily_65 2 rfl ?_
        refine ok_if_ne F 73 dX8_greedily_66 (by decide) (by omega) (fun c_2 => ?_) (fun c_2 => ?_)
        · refine ok_ldc (n := 1000000) F dX8_greedily_73 kK_X8_197 rfl ?_
          refine ok_iret F G dX8_greedily_75 ?_
          have ek : (k + 1).toNat = 0 := by omega
          rw [ek] at hg
          refine ⟨?_, rfl⟩
          rw [greedF, hg]
          show _ = some (pI (if L.toNat = 0 then ((n.toNat : Nat) : Int) else 1000000))
          first | (rw [if_pos (by omega), show ((n.toNat : Nat) : Int) = n by omega]; done) | (rw [if_neg (by omega)]; done)
        · refine ok_iload_n F dX8_greedily_69 3 rfl ?_
          refine ok_goto F 75 dX8_greedily_70 (by decide) ?_
          refine ok_iret F G dX8_greedily_75 ?_
          have ek : (k + 1).toNat = 0 := by omega
          rw [ek] at hg
          refine ⟨?_, rfl⟩
          rw [greedF, hg]
          show _ = some (pI (if L.toNat = 0 then ((n.toNat : Nat) : Int) else 1000000))
          first | (rw [if_pos (by omega), show ((n.toNat : Nat) : Int) = n by omega]; done) | (rw [if_neg (by omega)]; done)
      · have q1 := hTl k.toNat (by omega)
        rw [show 11 + k.toNat = (11 + k).toNat by omega] at q1
        have q2 := hVl k.toNat (by omega)
        rw [show 3 + k.toNat = (3 + k).toNat by omega] at q2
        refine ok_aload_n F dX8_greedily_19 0 rfl ?_
        refine ok_getr F dX8_greedily_20 kF_X8_9 sh_0 rfl ?_
        refine ok_bipush F dX8_greedily_23 rfl ?_
        refine ok_iload F dX8_greedily_25 4 rfl ?_
        refine ok_iadd F dX8_greedily_27 ?_
        refine ok_iald (v := mem 1 ((11 + k).toNat)) F dX8_greedily_28 sh_1 (by first | decide | assumption) (by omega) (by omega) rfl ?_
        refine ok_iload_n F dX8_greedily_29 2 rfl ?_
        refine ok_aload_n F dX8_greedily_30 0 rfl ?_
        refine ok_iload F dX8_greedily_31 4 rfl ?_
        refine ok_callv F [pI k] dX8_greedily_33 kM_X8_value kI_X8_value kV_X8_value kL_X8_191 (ci := 8) rfl sh_0 rfl (by decide) (Nat.le_of_ble_eq_true rfl) rfl (m_X8_value _ k mem (by omega)) ?_
        rintro _ _ ⟨rfl, rfl⟩
        obtain ⟨vk, hvd⟩ : ∃ x, x = (fun i => (mem 1 (3 + i)).toNat) k.toNat := ⟨_, rfl⟩
        have hvk : mem 1 (3 + k).toNat = (vk : Int) := by rw [hvd]; show _ = (((mem 1 (3 + k.toNat)).toNat : Nat) : Int); rw [show 3 + k.toNat = (3 + k).toNat by omega]; omega
        obtain ⟨qd, hqd⟩ : ∃ x, x = L.toNat / vk := ⟨_, rfl⟩
        have hdv : L.tdiv (mem 1 (3 + k).toNat) = (qd : Int) := by rw [hvk, Int.tdiv_eq_ediv_of_nonneg hL0, hqd, Int.natCast_ediv, show ((L.toNat : Nat) : Int) = L by omega]
        have hdm : qd * vk ≤ L.toNat := by rw [hqd]; exact Nat.div_mul_le_self _ _
        have hdl : qd ≤ L.toNat := by rw [hqd]; exact Nat.div_le_self _ _
        obtain ⟨z, hzd0⟩ : ∃ x, x = min (mem 1 (11 + k).toNat).toNat qd := ⟨_, rfl⟩
        have hz : min (mem 1 (11 + k).toNat) (L.tdiv (mem 1 (3 + k).toNat)) = (z : Int) := by rw [hdv]; omega
        have hzv : z * vk ≤ qd * vk := Nat.mul_le_mul_right vk (by omega)
        have hzz : z ≤ z * vk := Nat.le_mul_of_pos_right z (by omega)
        have hzi : (z : Int) * mem 1 (3 + k).toNat = ((z * vk : Nat) : Int) := by rw [hvk, Int.natCast_mul]
        have hzd : z = min ((fun i => (mem 1 (11 + i)).toNat) k.toNat) (L.toNat / (fun i => (mem 1 (3 + i)).toNat) k.toNat) := by rw [hzd0, hqd, hvd]; show min (mem 1 (11 + k).toNat).toNat _ = min (mem 1 (11 + k.toNat)).toNat _; rw [show 11 + k.toNat = (11 + k).toNat by omega]
        have hmz : min (mem 1 (11 + k).toNat) (L.tdiv (mem 1 (3 + k).toNat)) * mem 1 (3 + k).toNat = ((z * vk : Nat) : Int) := by rw [hz, hzi]
        refine ok_idiv F dX8_greedily_36 (by omega) (by omega) (by omega) ?_
        refine ok_mmin F dX8_greedily_37 kL_X8_128 kS_J9_min_7cf53 kM_J9_min_7cf53.2.1 kM_J9_min_7cf53.2.2.1 (by omega) (by omega) (by decide) (Nat.le_of_ble_eq_true rfl) ?_
        refine ok_istore (lv' := [(5, pI (min (mem 1 ((11 + k).toNat)) (L.tdiv (mem 1 (3 + k).toNat)))), (0, pR 0), (1, pI a), (2, pI L), (3, pI n), (4, pI k)]) F dX8_greedily_40 (by decide) rfl ?_
        refine ok_iload_n F dX8_greedily_42 4 rfl ?_
        refine ok_iload F dX8_greedily_43 0 rfl ?_
        refine ok_iadd F dX8_greedily_45 ?_
        refine ok_istore_n (lv' := [(3, pI (n + (min (mem 1 ((11 + k).toNat)) (L.tdiv (mem 1 (3 + k).toNat))))), (5, pI (min (mem 1 ((11 + k).toNat)) (L.tdiv (mem 1 (3 + k).toNat)))), (0, pR 0), (1, pI a), (2, pI L), (4, pI k)]) F dX8_greedily_46 (by decide) rfl ?_
        refine ok_iload_n F dX8_greedily_47 4 rfl ?_
        refine ok_iload F dX8_greedily_48 1 rfl ?_
        refine ok_aload_n F dX8_greedily_50 2 rfl ?_
        refine ok_iload F dX8_greedily_51 5 rfl ?_
        refine ok_callv F [pI k] dX8_greedily_53 kM_X8_value kI_X8_value kV_X8_value kL_X8_191 (ci := 8) rfl sh_0 rfl (by decide) (Nat.le_of_ble_eq_true rfl) rfl (m_X8_value _ k mem (by omega)) ?_
        rintro _ _ ⟨rfl, rfl⟩
        refine ok_imul F dX8_greedily_56 ?_
        refine ok_isub F dX8_greedily_57 ?_
        refine ok_istore_n (lv' := [(2, pI (L - ((min (mem 1 ((11 + k).toNat)) (L.tdiv (mem 1 (3 + k).toNat))) * (mem 1 (3 + k).toNat)))), (3, pI (n + (min (mem 1 ((11 + k).toNat)) (L.tdiv (mem 1 (3 + k).toNat))))), (5, pI (min (mem 1 ((11 + k).toNat)) (L.tdiv (mem 1 (3 + k).toNat)))), (0, pR 0), (1, pI a), (4, pI k)]) F dX8_greedily_58 (by decide) rfl ?_
        refine ok_iinc (lv' := [(4, pI (k + (-1))), (2, pI (L - ((min (mem 1 ((11 + k).toNat)) (L.tdiv (mem 1 (3 + k).toNat))) * (mem 1 (3 + k).toNat)))), (3, pI (n + (min (mem 1 ((11 + k).toNat)) (L.tdiv (mem 1 (3 + k).toNat))))), (5, pI (min (mem 1 ((11 + k).toNat)) (L.tdiv (mem 1 (3 + k).toNat)))), (0, pR 0), (1, pI a)]) F dX8_greedily_59 5 rfl (by decide) rfl ?_
        refine ok_goto F 14 dX8_greedily_62 (by decide) ?_
        refine ok_lvp [4, 5, 1, 2, 0] (lv' := [(0, pR 0), (1, pI a), (2, pI (L - ((min (mem 1 ((11 + k).toNat)) (L.tdiv (mem 1 (3 + k).toNat))) * (mem 1 (3 + k).toNat)))), (3, pI (n + (min (mem 1 ((11 + k).toNat)) (L.tdiv (mem 1 (3 + k).toNat))))), (4, pI (k + (-1)))]) rfl ?_
        refine ih_14 _ ?_ (L - ((min (mem 1 ((11 + k).toNat)) (L.tdiv (mem 1 (3 + k).toNat))) * (mem 1 (3 + k).toNat))) (n + (min (mem 1 ((11 + k).toNat)) (L.tdiv (mem 1 (3 + k).toNat)))) (k + (-1)) ?_ rfl
        · omega
        · refine ⟨by omega, by omega, by omega, by omega, by omega, ?_⟩
          rw [hg, show (k + 1).toNat = k.toNat + 1 by omega, grL_s, show (k + -1 + 1).toNat = k.toNat by omega]
          rw [hz, show (L - (z : Int) * mem 1 (3 + k).toNat).toNat = L.toNat - z * vk by omega, show (n + (z : Int)).toNat = n.toNat + z by omega, hzd, hvd]
  refine ok_lvp [3, 4, 2, 1, 0] (lv' := [(0, pR 0), (1, pI a), (2, pI a), (3, pI 0), (4, pI ((mem 1 0) - 1))]) rfl ?_
  refine hL_14 _ a 0 ((mem 1 0) - 1) ?_ rfl
  exact ⟨by omega, by omega, by omega, by omega, by omega, by rw [show (mem 1 0 - 1 + 1).toNat = (mem 1 0).toNat by omega]; rfl⟩
