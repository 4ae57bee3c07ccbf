/-! the ways to pay an amount: the reference and the class -/
/-- n steps upward from v: a cell takes what stands v below it -/
def upN (v : Nat) (w : Nat → Int) : Nat → (Nat → Int)
  | 0 => w
  | n + 1 => fun b => if b = v + n then upN v w n b + upN v w n (b - v) else upN v w n b
/-- n steps downward from A: a cell loses what stands B below it -/
def dnN (B A : Nat) (w : Nat → Int) : Nat → (Nat → Int)
  | 0 => w
  | n + 1 => fun b => if b + n = A then dnN B A w n b - dnN B A w n (b - B) else dnN B A w n b
/-- kind by kind -/
def wayN (v c : Nat → Nat) (A : Nat) (w : Nat → Int) : Nat → (Nat → Int)
  | 0 => w
  | k + 1 => dnN ((c k + 1) * v k) A (upN (v k) (wayN v c A w k) (A + 1 - v k)) (A + 1 - (c k + 1) * v k)
/-- the ways to pay A -/
def waysF (v c : Nat → Nat) (n A : Nat) : Int := wayN v c A (fun b => if b = 0 then 1 else 0) n A
theorem wayN_s (v c : Nat → Nat) (A : Nat) (w : Nat → Int) (k : Nat) : wayN v c A w (k + 1) = dnN ((c k + 1) * v k) A (upN (v k) (wayN v c A w k) (A + 1 - v k)) (A + 1 - (c k + 1) * v k) := rfl
theorem upN_congr {v A : Nat} {w w' : Nat → Int} (h : ∀ b, b ≤ A → w b = w' b) : ∀ (n b : Nat), b ≤ A → upN v w n b = upN v w' n b
  | 0, b, hb => h b hb
  | n + 1, b, hb => by
    show (if b = v + n then upN v w n b + upN v w n (b - v) else upN v w n b) = (if b = v + n then upN v w' n b + upN v w' n (b - v) else upN v w' n b)
    rw [upN_congr h n b hb, upN_congr h n (b - v) (by omega)]
theorem dnN_congr {B A : Nat} {w w' : Nat → Int} (h : ∀ b, b ≤ A → w b = w' b) : ∀ (n b : Nat), b ≤ A → dnN B A w n b = dnN B A w' n b
  | 0, b, hb => h b hb
  | n + 1, b, hb => by
    show (if b + n = A then dnN B A w n b - dnN B A w n (b - B) else dnN B A w n b) = (if b + n = A then dnN B A w' n b - dnN B A w' n (b - B) else dnN B A w' n b)
    rw [dnN_congr h n b hb, dnN_congr h n (b - B) (by omega)]
theorem wayN_congr {v c v' c' : Nat → Nat} {A : Nat} {w w' : Nat → Int} (h : ∀ b, b ≤ A → w b = w' b) : ∀ (k : Nat), (∀ i, i < k → v i = v' i ∧ c i = c' i) → ∀ b, b ≤ A → wayN v c A w k b = wayN v' c' A w' k b
  | 0, _ => h
  | k + 1, e => fun b hb => by
    rw [wayN_s, wayN_s, (e k (by omega)).1, (e k (by omega)).2]
    exact dnN_congr (fun b hb => upN_congr (wayN_congr h k (fun i hi => e i (by omega))) _ b hb) _ b hb
theorem toNat_beyond {c v : Int} (hc : 0 ≤ c) (hv : 0 ≤ v) : ((c + 1) * v).toNat = (c.toNat + 1) * v.toNat := by
  obtain ⟨x, rfl⟩ := Int.eq_ofNat_of_zero_le hc
  obtain ⟨y, rfl⟩ := Int.eq_ofNat_of_zero_le hv
  have e : (((x + 1) * y : Nat) : Int) = ((x : Int) + 1) * (y : Int) := by rw [Int.natCast_mul, Int.natCast_add]; rfl
  rw [← e]
  show (((x + 1) * y : Nat) : Int).toNat = ((x : Int).toNat + 1) * (y : Int).toNat
  rw [Int.toNat_natCast, Int.toNat_natCast, Int.toNat_natCast]
theorem dX7_countRows_0 : decode cX7_countRows 0 = .ok (.iload_n 1, 1) := by decide +kernel
theorem dX7_countRows_1 : decode cX7_countRows 1 = .ok (.iconst 1, 1) := by decide +kernel
theorem dX7_countRows_2 : decode cX7_countRows 2 = .ok (.if_icmp .lt 7, 3) := by decide +kernel
theorem dX7_countRows_5 : decode cX7_countRows 5 = .ok (.iload_n 2, 1) := by decide +kernel
theorem dX7_countRows_6 : decode cX7_countRows 6 = .ok (.ifCond .ge 4, 3) := by decide +kernel
theorem dX7_countRows_10 : decode cX7_countRows 10 = .ok (.iload_n 1, 1) := by decide +kernel
theorem dX7_countRows_11 : decode cX7_countRows 11 = .ok (.istore 4, 2) := by decide +kernel
theorem dX7_countRows_13 : decode cX7_countRows 13 = .ok (.iload 4, 2) := by decide +kernel
theorem dX7_countRows_15 : decode cX7_countRows 15 = .ok (.iload_n 3, 1) := by decide +kernel
theorem dX7_countRows_16 : decode cX7_countRows 16 = .ok (.if_icmp .gt 28, 3) := by decide +kernel
theorem dX7_countRows_19 : decode cX7_countRows 19 = .ok (.aload_n 0, 1) := by decide +kernel
theorem dX7_countRows_20 : decode cX7_countRows 20 = .ok (.getfield 61, 3) := by decide +kernel
theorem dX7_countRows_23 : decode cX7_countRows 23 = .ok (.iload 4, 2) := by decide +kernel
theorem dX7_countRows_25 : decode cX7_countRows 25 = .ok (.dup2, 1) := by decide +kernel
theorem dX7_countRows_26 : decode cX7_countRows 26 = .ok (.laload, 1) := by decide +kernel
theorem dX7_countRows_27 : decode cX7_countRows 27 = .ok (.aload_n 0, 1) := by decide +kernel
theorem dX7_countRows_28 : decode cX7_countRows 28 = .ok (.getfield 61, 3) := by decide +kernel
theorem dX7_countRows_31 : decode cX7_countRows 31 = .ok (.iload 4, 2) := by decide +kernel
theorem dX7_countRows_33 : decode cX7_countRows 33 = .ok (.iload_n 1, 1) := by decide +kernel
theorem dX7_countRows_34 : decode cX7_countRows 34 = .ok (.isub, 1) := by decide +kernel
theorem dX7_countRows_35 : decode cX7_countRows 35 = .ok (.laload, 1) := by decide +kernel
theorem dX7_countRows_36 : decode cX7_countRows 36 = .ok (.ladd, 1) := by decide +kernel
theorem dX7_countRows_37 : decode cX7_countRows 37 = .ok (.lastore, 1) := by decide +kernel
theorem dX7_countRows_38 : decode cX7_countRows 38 = .ok (.iinc 4 1, 3) := by decide +kernel
theorem dX7_countRows_41 : decode cX7_countRows 41 = .ok (.goto (-28), 3) := by decide +kernel
theorem dX7_countRows_44 : decode cX7_countRows 44 = .ok (.iload_n 2, 1) := by decide +kernel
theorem dX7_countRows_45 : decode cX7_countRows 45 = .ok (.iconst 1, 1) := by decide +kernel
theorem dX7_countRows_46 : decode cX7_countRows 46 = .ok (.iadd, 1) := by decide +kernel
theorem dX7_countRows_47 : decode cX7_countRows 47 = .ok (.iload_n 1, 1) := by decide +kernel
theorem dX7_countRows_48 : decode cX7_countRows 48 = .ok (.imul, 1) := by decide +kernel
theorem dX7_countRows_49 : decode cX7_countRows 49 = .ok (.istore 4, 2) := by decide +kernel
theorem dX7_countRows_51 : decode cX7_countRows 51 = .ok (.iload_n 3, 1) := by decide +kernel
theorem dX7_countRows_52 : decode cX7_countRows 52 = .ok (.istore 5, 2) := by decide +kernel
theorem dX7_countRows_54 : decode cX7_countRows 54 = .ok (.iload 5, 2) := by decide +kernel
theorem dX7_countRows_56 : decode cX7_countRows 56 = .ok (.iload 4, 2) := by decide +kernel
theorem dX7_countRows_58 : decode cX7_countRows 58 = .ok (.if_icmp .lt 29, 3) := by decide +kernel
theorem dX7_countRows_61 : decode cX7_countRows 61 = .ok (.aload_n 0, 1) := by decide +kernel
theorem dX7_countRows_62 : decode cX7_countRows 62 = .ok (.getfield 61, 3) := by decide +kernel
theorem dX7_countRows_65 : decode cX7_countRows 65 = .ok (.iload 5, 2) := by decide +kernel
theorem dX7_countRows_67 : decode cX7_countRows 67 = .ok (.dup2, 1) := by decide +kernel
theorem dX7_countRows_68 : decode cX7_countRows 68 = .ok (.laload, 1) := by decide +kernel
theorem dX7_countRows_69 : decode cX7_countRows 69 = .ok (.aload_n 0, 1) := by decide +kernel
theorem dX7_countRows_70 : decode cX7_countRows 70 = .ok (.getfield 61, 3) := by decide +kernel
theorem dX7_countRows_73 : decode cX7_countRows 73 = .ok (.iload 5, 2) := by decide +kernel
theorem dX7_countRows_75 : decode cX7_countRows 75 = .ok (.iload 4, 2) := by decide +kernel
theorem dX7_countRows_77 : decode cX7_countRows 77 = .ok (.isub, 1) := by decide +kernel
theorem dX7_countRows_78 : decode cX7_countRows 78 = .ok (.laload, 1) := by decide +kernel
theorem dX7_countRows_79 : decode cX7_countRows 79 = .ok (.lsub, 1) := by decide +kernel
theorem dX7_countRows_80 : decode cX7_countRows 80 = .ok (.lastore, 1) := by decide +kernel
theorem dX7_countRows_81 : decode cX7_countRows 81 = .ok (.iinc 5 (-1), 3) := by decide +kernel
theorem dX7_countRows_84 : decode cX7_countRows 84 = .ok (.goto (-30), 3) := by decide +kernel
theorem dX7_countRows_87 : decode cX7_countRows 87 = .ok (.return_, 1) := by decide +kernel
set_option maxHeartbeats 4000000 in
set_option maxRecDepth 100000 in
theorem m_X7_countRows (l : Launch) (v : Int) (k : Int) (A : Int) (mem : Mem) (hv : 1 ≤ v ∧ v ≤ 500) (hk : 0 ≤ k ∧ k ≤ 99) (hA : 0 ≤ A ∧ A ≤ 2500) : Ret shp l yX7_countRows cX7_countRows 6 none 0 [pR 20, pI v, pI k, pI A] mem (fun rv mv => rv = none ∧ (∀ c, c ≠ 210 → mv c = mem c) ∧ mv 210 = dnN ((k.toNat + 1) * v.toNat) A.toNat (upN v.toNat (mem 210) (A.toNat + 1 - v.toNat)) (A.toNat + 1 - (k.toNat + 1) * v.toNat)) := by
  refine ret_of (by decide +kernel) (Nat.le_of_ble_eq_true rfl) (fun X hX F G => ?_)
  show Ok shp X 6 0 [(0, pR 20), (1, pI v), (2, pI k), (3, pI A)] [] mem
  refine ok_iload_n F dX7_countRows_0 1 rfl ?_
  refine ok_iconst F dX7_countRows_1 ?_
  refine ok_icmp_lt F 9 dX7_countRows_2 (by decide) (by omega) (by omega) (fun c_1 => ?_) (fun c_1 => ?_)
  · exfalso; omega
  · refine ok_iload_n F dX7_countRows_5 2 rfl ?_
    refine ok_if_ge F 10 dX7_countRows_6 (by decide) (by omega) (fun c_2 => ?_) (fun c_2 => ?_)
    · refine ok_iload_n F dX7_countRows_10 1 rfl ?_
      refine ok_istore (lv' := [(4, pI v), (0, pR 20), (1, pI v), (2, pI k), (3, pI A)]) F dX7_countRows_11 (by decide) rfl ?_
      have hL_13 : ∀ (n_13 : Nat) (a : Int) (m : Mem), (v ≤ a ∧ (a ≤ A + 1 ∨ a = v) ∧ (∀ c, c ≠ 210 → m c = mem c) ∧ m 210 = upN v.toNat (mem 210) (a - v).toNat) → (A + 1 - a).toNat = n_13 → Ok shp X 6 13 [(0, pR 20), (1, pI v), (2, pI k), (3, pI A), (4, pI a)] [] m := by
        intro n_13
        induction n_13 using Nat.strongRecOn with
        | _ n_13 ih_13 =>
          intro a m hI_13 hn_13
          refine ok_iload F dX7_countRows_13 4 rfl ?_
          refine ok_iload_n F dX7_countRows_15 3 rfl ?_
          refine ok_icmp_gt F 44 dX7_countRows_16 (by decide) (by omega) (by omega) (fun c_3 => ?_) (fun c_3 => ?_)
          · have q3 := mul_bd (x := k + 1) (X := 100) (by omega) (show 0 ≤ v ∧ v ≤ 500 from ⟨by omega, hv.2⟩)
            have q4 : 1 * v ≤ (k + 1) * v := Int.mul_le_mul_of_nonneg_right (by omega) (by omega)
            refine ok_iload_n F dX7_countRows_44 2 rfl ?_
            refine ok_iconst F dX7_countRows_45 ?_
            refine ok_iadd F dX7_countRows_46 ?_
            refine ok_iload_n F dX7_countRows_47 1 rfl ?_
            refine ok_imul F dX7_countRows_48 ?_
            refine ok_istore (lv' := [(4, pI ((k + 1) * v)), (0, pR 20), (1, pI v), (2, pI k), (3, pI A)]) F dX7_countRows_49 (by decide) rfl ?_
            refine ok_iload_n F dX7_countRows_51 4 rfl ?_
            refine ok_istore (lv' := [(5, pI A), (4, pI ((k + 1) * v)), (0, pR 20), (1, pI v), (2, pI k), (3, pI A)]) F dX7_countRows_52 (by decide) rfl ?_
            have eup : m 210 = upN v.toNat (mem 210) (A.toNat + 1 - v.toNat) := by rw [hI_13.2.2.2, show (a - v).toNat = A.toNat + 1 - v.toNat by omega]
            have hL_54 : ∀ (n_54 : Nat) (B : Int) (b : Int) (m9 : Mem), ((1 ≤ B ∧ B ≤ 50000 ∧ B = (k + 1) * v) ∧ -1 ≤ b ∧ b ≤ A ∧ (B - 1 ≤ b ∨ b = A) ∧ (∀ c, c ≠ 210 → m9 c = mem c) ∧ m9 210 = dnN B.toNat A.toNat (upN v.toNat (mem 210) (A.toNat + 1 - v.toNat)) (A - b).toNat) → (b + 1).toNat = n_54 → Ok shp X 6 54 [(0, pR 20), (1, pI v), (2, pI k), (3, pI A), (4, pI B), (5, pI b)] [] m9 := by
              intro n_54
              induction n_54 using Nat.strongRecOn with
              | _ n_54 ih_54 =>
                intro B b m9 hI_54 hn_54
                refine ok_iload F dX7_countRows_54 5 rfl ?_
                refine ok_iload F dX7_countRows_56 4 rfl ?_
                refine ok_icmp_lt F 87 dX7_countRows_58 (by decide) (by omega) (by omega) (fun c_4 => ?_) (fun c_4 => ?_)
                · refine ok_vret F G dX7_countRows_87 ?_
                  obtain ⟨⟨hB1, hB2, hB3⟩, hb0, hb1, hb2, hF, hR⟩ := hI_54
                  refine ⟨rfl, hF, ?_⟩
                  have eB : B.toNat = (k.toNat + 1) * v.toNat := by rw [hB3]; exact toNat_beyond (by omega) (by omega)
                  rw [hR, ← eB, show (A - b).toNat = A.toNat + 1 - B.toNat by omega]
                · refine ok_aload_n F dX7_countRows_61 0 rfl ?_
                  refine ok_getr F dX7_countRows_62 kF_X7_61 sh_20 rfl ?_
                  refine ok_iload F dX7_countRows_65 5 rfl ?_
                  refine ok_dup2 F dX7_countRows_67 rfl rfl ?_
                  refine ok_lald (v := m9 210 b.toNat) F dX7_countRows_68 sh_210 (by first | decide | assumption) (by omega) (by omega) rfl ?_
                  refine ok_aload_n F dX7_countRows_69 0 rfl ?_
                  refine ok_getr F dX7_countRows_70 kF_X7_61 sh_20 rfl ?_
                  refine ok_iload F dX7_countRows_73 5 rfl ?_
                  refine ok_iload F dX7_countRows_75 4 rfl ?_
                  refine ok_isub F dX7_countRows_77 ?_
                  refine ok_lald (v := m9 210 ((b - B).toNat)) F dX7_countRows_78 sh_210 (by first | decide | assumption) (by omega) (by omega) rfl ?_
                  refine ok_lsub F dX7_countRows_79 ?_
                  refine ok_last F dX7_countRows_80 sh_210 (by first | decide | assumption) (by omega) (by omega) (fun m_5 e_6 => ?_)
                  refine ok_iinc (lv' := [(5, pI (b + (-1))), (0, pR 20), (1, pI v), (2, pI k), (3, pI A), (4, pI B)]) F dX7_countRows_81 5 rfl (by decide) rfl ?_
                  refine ok_goto F 54 dX7_countRows_84 (by decide) ?_
                  refine ok_lvp [1, 2, 3, 4, 5, 0] (lv' := [(0, pR 20), (1, pI v), (2, pI k), (3, pI A), (4, pI B), (5, pI (b + (-1)))]) rfl ?_
                  refine ih_54 _ ?_ B (b + (-1)) m_5 ?_ rfl
                  · omega
                  · refine ⟨hI_54.1, by omega, by omega, by omega, fun c c1 => by rw [e_6, mset_nka c1]; exact hI_54.2.2.2.2.1 c c1, ?_⟩
                    funext b9
                    rw [e_6, show (A - (b + -1)).toNat = (A - b).toNat + 1 by omega]
                    show _ = (if b9 + (A - b).toNat = A.toNat then dnN B.toNat A.toNat (upN v.toNat (mem 210) (A.toNat + 1 - v.toNat)) (A - b).toNat b9 - dnN B.toNat A.toNat (upN v.toNat (mem 210) (A.toNat + 1 - v.toNat)) (A - b).toNat (b9 - B.toNat) else dnN B.toNat A.toNat (upN v.toNat (mem 210) (A.toNat + 1 - v.toNat)) (A - b).toNat b9)
                    rw [← hI_54.2.2.2.2.2]
                    by_cases e : b9 = b.toNat
                    · subst e; rw [mset_eq, if_pos (by omega), show b.toNat - B.toNat = (b - B).toNat by omega]
                    · rw [mset_ne (fun q => e q.2), if_neg (by omega)]
            refine ok_lvp [2, 3, 4, 5, 1, 0] (lv' := [(0, pR 20), (1, pI v), (2, pI k), (3, pI A), (4, pI ((k + 1) * v)), (5, pI A)]) rfl ?_
            refine hL_54 _ ((k + 1) * v) A m ?_ rfl
            exact ⟨⟨by omega, by omega, rfl⟩, by omega, by omega, by omega, hI_13.2.2.1, by rw [show (A - A).toNat = 0 by omega]; exact eup⟩
          · refine ok_aload_n F dX7_countRows_19 0 rfl ?_
            refine ok_getr F dX7_countRows_20 kF_X7_61 sh_20 rfl ?_
            refine ok_iload F dX7_countRows_23 4 rfl ?_
            refine ok_dup2 F dX7_countRows_25 rfl rfl ?_
            refine ok_lald (v := m 210 a.toNat) F dX7_countRows_26 sh_210 (by first | decide | assumption) (by omega) (by omega) rfl ?_
            refine ok_aload_n F dX7_countRows_27 0 rfl ?_
            refine ok_getr F dX7_countRows_28 kF_X7_61 sh_20 rfl ?_
            refine ok_iload F dX7_countRows_31 4 rfl ?_
            refine ok_iload_n F dX7_countRows_33 1 rfl ?_
            refine ok_isub F dX7_countRows_34 ?_
            refine ok_lald (v := m 210 ((a - v).toNat)) F dX7_countRows_35 sh_210 (by first | decide | assumption) (by omega) (by omega) rfl ?_
            refine ok_ladd F dX7_countRows_36 ?_
            refine ok_last F dX7_countRows_37 sh_210 (by first | decide | assumption) (by omega) (by omega) (fun m_7 e_8 => ?_)
            refine ok_iinc (lv' := [(4, pI (a + 1)), (0, pR 20), (1, pI v), (2, pI k), (3, pI A)]) F dX7_countRows_38 4 rfl (by decide) rfl ?_
            refine ok_goto F 13 dX7_countRows_41 (by decide) ?_
            refine ok_lvp [1, 2, 3, 4, 0] (lv' := [(0, pR 20), (1, pI v), (2, pI k), (3, pI A), (4, pI (a + 1))]) rfl ?_
            refine ih_13 _ ?_ (a + 1) m_7 ?_ rfl
            · omega
            · refine ⟨by omega, by omega, fun c c1 => by rw [e_8, mset_nka c1]; exact hI_13.2.2.1 c c1, ?_⟩
              funext b
              rw [e_8, show (a + 1 - v).toNat = (a - v).toNat + 1 by omega]
              show _ = (if b = v.toNat + (a - v).toNat then upN v.toNat (mem 210) (a - v).toNat b + upN v.toNat (mem 210) (a - v).toNat (b - v.toNat) else upN v.toNat (mem 210) (a - v).toNat b)
              rw [← hI_13.2.2.2]
              by_cases e : b = a.toNat
              · subst e; rw [mset_eq, if_pos (by omega), show a.toNat - v.toNat = (a - v).toNat by omega]
              · rw [mset_ne (fun q => e q.2), if_neg (by omega)]
      refine ok_lvp [1, 2, 3, 4, 0] (lv' := [(0, pR 20), (1, pI v), (2, pI k), (3, pI A), (4, pI v)]) rfl ?_
      refine hL_13 _ v mem ?_ rfl
      exact ⟨by omega, by omega, fun _ _ => rfl, by rw [show (v - v).toNat = 0 by omega]; rfl⟩
    · exfalso; omega
theorem dX7_ways_0 : decode cX7_ways 0 = .ok (.iload_n 1, 1) := by decide +kernel
theorem dX7_ways_1 : decode cX7_ways 1 = .ok (.invokestatic 243, 3) := by decide +kernel
theorem dX7_ways_4 : decode cX7_ways 4 = .ok (.ifCond .ne 7, 3) := by decide +kernel
theorem dX7_ways_7 : decode cX7_ways 7 = .ok (.ldc2_w 258, 3) := by decide +kernel
theorem dX7_ways_10 : decode cX7_ways 10 = .ok (.lreturn, 1) := by decide +kernel
theorem dX7_ways_11 : decode cX7_ways 11 = .ok (.iconst 1, 1) := by decide +kernel
theorem dX7_ways_12 : decode cX7_ways 12 = .ok (.istore_n 2, 1) := by decide +kernel
theorem dX7_ways_13 : decode cX7_ways 13 = .ok (.iload_n 2, 1) := by decide +kernel
theorem dX7_ways_14 : decode cX7_ways 14 = .ok (.iload_n 1, 1) := by decide +kernel
theorem dX7_ways_15 : decode cX7_ways 15 = .ok (.if_icmp .gt 16, 3) := by decide +kernel
theorem dX7_ways_18 : decode cX7_ways 18 = .ok (.aload_n 0, 1) := by decide +kernel
theorem dX7_ways_19 : decode cX7_ways 19 = .ok (.getfield 61, 3) := by decide +kernel
theorem dX7_ways_22 : decode cX7_ways 22 = .ok (.iload_n 2, 1) := by decide +kernel
theorem dX7_ways_23 : decode cX7_ways 23 = .ok (.lconst 0, 1) := by decide +kernel
theorem dX7_ways_24 : decode cX7_ways 24 = .ok (.lastore, 1) := by decide +kernel
theorem dX7_ways_25 : decode cX7_ways 25 = .ok (.iinc 2 1, 3) := by decide +kernel
theorem dX7_ways_28 : decode cX7_ways 28 = .ok (.goto (-15), 3) := by decide +kernel
theorem dX7_ways_31 : decode cX7_ways 31 = .ok (.aload_n 0, 1) := by decide +kernel
theorem dX7_ways_32 : decode cX7_ways 32 = .ok (.getfield 61, 3) := by decide +kernel
theorem dX7_ways_35 : decode cX7_ways 35 = .ok (.iconst 0, 1) := by decide +kernel
theorem dX7_ways_36 : decode cX7_ways 36 = .ok (.lconst 1, 1) := by decide +kernel
theorem dX7_ways_37 : decode cX7_ways 37 = .ok (.lastore, 1) := by decide +kernel
theorem dX7_ways_38 : decode cX7_ways 38 = .ok (.iconst 0, 1) := by decide +kernel
theorem dX7_ways_39 : decode cX7_ways 39 = .ok (.istore_n 2, 1) := by decide +kernel
theorem dX7_ways_40 : decode cX7_ways 40 = .ok (.iload_n 2, 1) := by decide +kernel
theorem dX7_ways_41 : decode cX7_ways 41 = .ok (.aload_n 0, 1) := by decide +kernel
theorem dX7_ways_42 : decode cX7_ways 42 = .ok (.getfield 10, 3) := by decide +kernel
theorem dX7_ways_45 : decode cX7_ways 45 = .ok (.getfield 103, 3) := by decide +kernel
theorem dX7_ways_48 : decode cX7_ways 48 = .ok (.if_icmp .ge 32, 3) := by decide +kernel
theorem dX7_ways_51 : decode cX7_ways 51 = .ok (.aload_n 0, 1) := by decide +kernel
theorem dX7_ways_52 : decode cX7_ways 52 = .ok (.aload_n 0, 1) := by decide +kernel
theorem dX7_ways_53 : decode cX7_ways 53 = .ok (.getfield 10, 3) := by decide +kernel
theorem dX7_ways_56 : decode cX7_ways 56 = .ok (.getfield 186, 3) := by decide +kernel
theorem dX7_ways_59 : decode cX7_ways 59 = .ok (.iload_n 2, 1) := by decide +kernel
theorem dX7_ways_60 : decode cX7_ways 60 = .ok (.iaload, 1) := by decide +kernel
theorem dX7_ways_61 : decode cX7_ways 61 = .ok (.aload_n 0, 1) := by decide +kernel
theorem dX7_ways_62 : decode cX7_ways 62 = .ok (.getfield 10, 3) := by decide +kernel
theorem dX7_ways_65 : decode cX7_ways 65 = .ok (.getfield 133, 3) := by decide +kernel
theorem dX7_ways_68 : decode cX7_ways 68 = .ok (.iload_n 2, 1) := by decide +kernel
theorem dX7_ways_69 : decode cX7_ways 69 = .ok (.iaload, 1) := by decide +kernel
theorem dX7_ways_70 : decode cX7_ways 70 = .ok (.iload_n 1, 1) := by decide +kernel
theorem dX7_ways_71 : decode cX7_ways 71 = .ok (.invokevirtual 260, 3) := by decide +kernel
theorem dX7_ways_74 : decode cX7_ways 74 = .ok (.iinc 2 1, 3) := by decide +kernel
theorem dX7_ways_77 : decode cX7_ways 77 = .ok (.goto (-37), 3) := by decide +kernel
theorem dX7_ways_80 : decode cX7_ways 80 = .ok (.aload_n 0, 1) := by decide +kernel
theorem dX7_ways_81 : decode cX7_ways 81 = .ok (.getfield 61, 3) := by decide +kernel
theorem dX7_ways_84 : decode cX7_ways 84 = .ok (.iload_n 1, 1) := by decide +kernel
theorem dX7_ways_85 : decode cX7_ways 85 = .ok (.laload, 1) := by decide +kernel
theorem dX7_ways_86 : decode cX7_ways 86 = .ok (.lreturn, 1) := by decide +kernel
set_option maxHeartbeats 4000000 in
set_option maxRecDepth 100000 in
theorem m_X7_ways (l : Launch) (A : Int) (mem : Mem) (hA : i32 A) (hCI : CI mem) (hN : 0 ≤ mem 21 0 ∧ mem 21 0 ≤ 8) (hV : ∀ i : Nat, i < 8 → 0 ≤ mem 22 i ∧ mem 22 i ≤ 500) (hV1 : ∀ i : Nat, (i : Int) < mem 21 0 → 1 ≤ mem 22 i) (hTl : ∀ k : Nat, k < 8 → 0 ≤ mem 23 k ∧ mem 23 k ≤ 99) : Ret shp l yX7_ways cX7_ways 3 (some .long) 1 [pR 20, pI A] mem (fun rv mv => ∃ z, rv = some (pL z) ∧ KeepC mem mv ∧ z = if 0 ≤ A ∧ A ≤ 2500 then waysF (fun i => (mem 22 i).toNat) (fun i => (mem 23 i).toNat) (mem 21 0).toNat A.toNat else -1) := by
  refine ret_of (by decide +kernel) (Nat.le_of_ble_eq_true rfl) (fun X hX F G => ?_)
  show Ok shp X 3 0 [(0, pR 20), (1, pI A)] [] mem
  refine ok_iload_n F dX7_ways_0 1 rfl ?_
  refine ok_calls F [pI A] dX7_ways_1 kM_X7_isAmount kS_X7_isAmount kL_X7_243 rfl (by decide) (Nat.le_of_ble_eq_true rfl) rfl (m_X7_isAmount _ A mem (by omega)) ?_
  rintro _ _ ⟨rfl, rfl⟩
  refine ok_if_ne F 11 dX7_ways_4 (by decide) (by omega) (fun c_1 => ?_) (fun c_1 => ?_)
  · refine ok_iconst F dX7_ways_11 ?_
    refine ok_istore_n (lv' := [(2, pI 1), (0, pR 20), (1, pI A)]) F dX7_ways_12 (by decide) rfl ?_
    have hL_13 : ∀ (n_13 : Nat) (a : Int) (m : Mem), (1 ≤ a ∧ a ≤ A + 1 ∧ (∀ c, c ≠ 210 → m c = mem c) ∧ ∀ b : Nat, 1 ≤ b → (b : Int) < a → m 210 b = 0) → (A + 1 - a).toNat = n_13 → Ok shp X 3 13 [(0, pR 20), (1, pI A), (2, pI a)] [] m := by
      intro n_13
      induction n_13 using Nat.strongRecOn with
      | _ n_13 ih_13 =>
        intro a m hI_13 hn_13
        refine ok_iload_n F dX7_ways_13 2 rfl ?_
        refine ok_iload_n F dX7_ways_14 1 rfl ?_
        refine ok_icmp_gt F 31 dX7_ways_15 (by decide) (by omega) (by omega) (fun c_2 => ?_) (fun c_2 => ?_)
        · refine ok_aload_n F dX7_ways_31 0 rfl ?_
          refine ok_getr F dX7_ways_32 kF_X7_61 sh_20 rfl ?_
          refine ok_iconst F dX7_ways_35 ?_
          refine ok_lconst (z := 1) F dX7_ways_36 rfl ?_
          refine ok_last F dX7_ways_37 sh_210 (by first | decide | assumption) (by omega) (by omega) (fun m_3 e_4 => ?_)
          refine ok_iconst F dX7_ways_38 ?_
          refine ok_istore_n (lv' := [(2, pI 0), (0, pR 20), (1, pI A)]) F dX7_ways_39 (by decide) rfl ?_
          obtain ⟨w0, hw0⟩ : ∃ x : Nat → Int, x = m_3 210 := ⟨_, rfl⟩
          have hw1 : ∀ b, b ≤ A.toNat → w0 b = if b = 0 then 1 else 0 := fun b hb => by
            rw [hw0, e_4, show Int.toNat 0 = 0 from rfl]
            by_cases e : b = 0
            · subst e; rw [mset_eq, if_pos rfl]
            · rw [mset_ne (fun q => e q.2), if_neg e]; exact hI_13.2.2.2 b (by omega) (by omega)
          have hL_40 : ∀ (n_40 : Nat) (k : Int) (m9 : Mem), (0 ≤ k ∧ k ≤ mem 21 0 ∧ (∀ c, c ≠ 210 → m9 c = mem c) ∧ m9 210 = wayN (fun i => (mem 22 i).toNat) (fun i => (mem 23 i).toNat) A.toNat w0 k.toNat) → (mem 21 0 - k).toNat = n_40 → Ok shp X 3 40 [(0, pR 20), (1, pI A), (2, pI k)] [] m9 := by
            intro n_40
            induction n_40 using Nat.strongRecOn with
            | _ n_40 ih_40 =>
              intro k m9 hI_40 hn_40
              obtain ⟨hk0, hk1, hF9, hR9⟩ := hI_40
              refine ok_iload_n F dX7_ways_40 2 rfl ?_
              refine ok_aload_n F dX7_ways_41 0 rfl ?_
              refine ok_getr F dX7_ways_42 kF_X7_10 sh_20 rfl ?_
              refine ok_getf (v := mem 21 0) F dX7_ways_45 kF_X7_103 sh_21 rfl (by rw [(hF9 21 (by decide))] <;> rfl) ?_
              refine ok_icmp_ge F 80 dX7_ways_48 (by decide) (by omega) (by omega) (fun c_5 => ?_) (fun c_5 => ?_)
              · refine ok_aload_n F dX7_ways_80 0 rfl ?_
                refine ok_getr F dX7_ways_81 kF_X7_61 sh_20 rfl ?_
                refine ok_iload_n F dX7_ways_84 1 rfl ?_
                refine ok_lald (v := m9 210 A.toNat) F dX7_ways_85 sh_210 (by first | decide | assumption) (by omega) (by omega) rfl ?_
                refine ok_lret F G dX7_ways_86 ?_
                refine ⟨_, rfl, ⟨fun c hc => hF9 c (by omega), hCI.congr (fun c c1 c2 _ _ => hF9 c (by omega))⟩, ?_⟩
                rw [if_pos (by omega), hR9, show k = mem 21 0 by omega]
                exact wayN_congr hw1 _ (fun _ _ => ⟨rfl, rfl⟩) _ (Nat.le_refl _)
              · have q1 := hV k.toNat (by omega)
                have q2 := hV1 k.toNat (by omega)
                have q3 := hTl k.toNat (by omega)
                refine ok_aload_n F dX7_ways_51 0 rfl ?_
                refine ok_aload_n F dX7_ways_52 0 rfl ?_
                refine ok_getr F dX7_ways_53 kF_X7_10 sh_20 rfl ?_
                refine ok_getr F dX7_ways_56 kF_X7_186 sh_21 rfl ?_
                refine ok_iload_n F dX7_ways_59 2 rfl ?_
                refine ok_iald (v := mem 22 k.toNat) F dX7_ways_60 sh_22 (by first | decide | assumption) (by omega) (by omega) (by rw [(hF9 22 (by decide))] <;> rfl) ?_
                refine ok_aload_n F dX7_ways_61 0 rfl ?_
                refine ok_getr F dX7_ways_62 kF_X7_10 sh_20 rfl ?_
                refine ok_getr F dX7_ways_65 kF_X7_133 sh_21 rfl ?_
                refine ok_iload_n F dX7_ways_68 2 rfl ?_
                refine ok_iald (v := mem 23 k.toNat) F dX7_ways_69 sh_23 (by first | decide | assumption) (by omega) (by omega) (by rw [(hF9 23 (by decide))] <;> rfl) ?_
                refine ok_iload_n F dX7_ways_70 1 rfl ?_
                refine ok_callv F [pI (mem 22 k.toNat), pI (mem 23 k.toNat), pI A] dX7_ways_71 kM_X7_countRows kI_X7_countRows kV_X7_countRows kL_X7_260 (ci := 7) rfl sh_20 rfl (by decide) (Nat.le_of_ble_eq_true rfl) rfl (m_X7_countRows _ (mem 22 k.toNat) (mem 23 k.toNat) A m9 (by omega) (by omega) (by omega)) ?_
                rintro _ m_7 ⟨rfl, r_8⟩
                obtain ⟨u1, u2⟩ := id r_8
                refine ok_iinc (lv' := [(2, pI (k + 1)), (0, pR 20), (1, pI A)]) F dX7_ways_74 2 rfl (by decide) rfl ?_
                refine ok_goto F 40 dX7_ways_77 (by decide) ?_
                refine ok_lvp [1, 2, 0] (lv' := [(0, pR 20), (1, pI A), (2, pI (k + 1))]) rfl ?_
                refine ih_40 _ ?_ (k + 1) m_7 ?_ rfl
                · omega
                · refine ⟨by omega, by omega, fun c c1 => by rw [u1 c c1]; exact hF9 c c1, ?_⟩
                  rw [u2, show (k + 1).toNat = k.toNat + 1 by omega, wayN_s, hR9]
          refine ok_lvp [1, 2, 0] (lv' := [(0, pR 20), (1, pI A), (2, pI 0)]) rfl ?_
          refine hL_40 _ 0 m_3 ?_ rfl
          exact ⟨by omega, by omega, fun c c1 => by rw [e_4, mset_nka c1]; exact hI_13.2.2.1 c c1, hw0.symm⟩
        · refine ok_aload_n F dX7_ways_18 0 rfl ?_
          refine ok_getr F dX7_ways_19 kF_X7_61 sh_20 rfl ?_
          refine ok_iload_n F dX7_ways_22 2 rfl ?_
          refine ok_lconst (z := 0) F dX7_ways_23 rfl ?_
          refine ok_last F dX7_ways_24 sh_210 (by first | decide | assumption) (by omega) (by omega) (fun m_9 e_10 => ?_)
          refine ok_iinc (lv' := [(2, pI (a + 1)), (0, pR 20), (1, pI A)]) F dX7_ways_25 2 rfl (by decide) rfl ?_
          refine ok_goto F 13 dX7_ways_28 (by decide) ?_
          refine ok_lvp [1, 2, 0] (lv' := [(0, pR 20), (1, pI A), (2, pI (a + 1))]) rfl ?_
          refine ih_13 _ ?_ (a + 1) m_9 ?_ rfl
          · omega
          · refine ⟨by omega, by omega, fun c c1 => by rw [e_10, mset_nka c1]; exact hI_13.2.2.1 c c1, fun b b1 b2 => ?_⟩
            rw [e_10]
            by_cases e : b = a.toNat
            · subst e; rw [mset_eq]
            · rw [mset_ne (fun q => e q.2)]; exact hI_13.2.2.2 b b1 (by omega)
    refine ok_lvp [1, 2, 0] (lv' := [(0, pR 20), (1, pI A), (2, pI 1)]) rfl ?_
    refine hL_13 _ 1 mem ?_ rfl
    exact ⟨by omega, by omega, fun _ _ => rfl, fun b b1 b2 => by omega⟩
  · refine ok_ldc2 (n := -1) F dX7_ways_7 kJ_X7_258 rfl ?_
    refine ok_lret F G dX7_ways_10 ?_
    exact ⟨_, rfl, KeepC.rf hCI, by rw [if_neg (by omega)]⟩
theorem dX8_ways_0 : decode cX8_ways 0 = .ok (.iload_n 1, 1) := by decide +kernel
theorem dX8_ways_1 : decode cX8_ways 1 = .ok (.invokestatic 307, 3) := by decide +kernel
theorem dX8_ways_4 : decode cX8_ways 4 = .ok (.ifCond .ne 7, 3) := by decide +kernel
theorem dX8_ways_7 : decode cX8_ways 7 = .ok (.ldc2_w 310, 3) := by decide +kernel
theorem dX8_ways_10 : decode cX8_ways 10 = .ok (.lreturn, 1) := by decide +kernel
theorem dX8_ways_11 : decode cX8_ways 11 = .ok (.iconst 0, 1) := by decide +kernel
theorem dX8_ways_12 : decode cX8_ways 12 = .ok (.istore_n 2, 1) := by decide +kernel
theorem dX8_ways_13 : decode cX8_ways 13 = .ok (.iload_n 2, 1) := by decide +kernel
theorem dX8_ways_14 : decode cX8_ways 14 = .ok (.iload_n 1, 1) := by decide +kernel
theorem dX8_ways_15 : decode cX8_ways 15 = .ok (.if_icmp .gt 24, 3) := by decide +kernel
theorem dX8_ways_18 : decode cX8_ways 18 = .ok (.aload_n 0, 1) := by decide +kernel
theorem dX8_ways_19 : decode cX8_ways 19 = .ok (.getfield 61, 3) := by decide +kernel
theorem dX8_ways_22 : decode cX8_ways 22 = .ok (.iload_n 2, 1) := by decide +kernel
theorem dX8_ways_23 : decode cX8_ways 23 = .ok (.iload_n 2, 1) := by decide +kernel
theorem dX8_ways_24 : decode cX8_ways 24 = .ok (.ifCond .ne 7, 3) := by decide +kernel
theorem dX8_ways_27 : decode cX8_ways 27 = .ok (.lconst 1, 1) := by decide +kernel
theorem dX8_ways_28 : decode cX8_ways 28 = .ok (.goto 4, 3) := by decide +kernel
theorem dX8_ways_31 : decode cX8_ways 31 = .ok (.lconst 0, 1) := by decide +kernel
theorem dX8_ways_32 : decode cX8_ways 32 = .ok (.lastore, 1) := by decide +kernel
theorem dX8_ways_33 : decode cX8_ways 33 = .ok (.iinc 2 1, 3) := by decide +kernel
theorem dX8_ways_36 : decode cX8_ways 36 = .ok (.goto (-23), 3) := by decide +kernel
theorem dX8_ways_39 : decode cX8_ways 39 = .ok (.iconst 0, 1) := by decide +kernel
theorem dX8_ways_40 : decode cX8_ways 40 = .ok (.istore_n 2, 1) := by decide +kernel
theorem dX8_ways_41 : decode cX8_ways 41 = .ok (.iload_n 2, 1) := by decide +kernel
theorem dX8_ways_42 : decode cX8_ways 42 = .ok (.aload_n 0, 1) := by decide +kernel
theorem dX8_ways_43 : decode cX8_ways 43 = .ok (.getfield 9, 3) := by decide +kernel
theorem dX8_ways_46 : decode cX8_ways 46 = .ok (.iconst 0, 1) := by decide +kernel
theorem dX8_ways_47 : decode cX8_ways 47 = .ok (.iaload, 1) := by decide +kernel
theorem dX8_ways_48 : decode cX8_ways 48 = .ok (.if_icmp .ge 100, 3) := by decide +kernel
theorem dX8_ways_51 : decode cX8_ways 51 = .ok (.aload_n 0, 1) := by decide +kernel
theorem dX8_ways_52 : decode cX8_ways 52 = .ok (.iload_n 2, 1) := by decide +kernel
theorem dX8_ways_53 : decode cX8_ways 53 = .ok (.invokevirtual 191, 3) := by decide +kernel
theorem dX8_ways_56 : decode cX8_ways 56 = .ok (.istore_n 3, 1) := by decide +kernel
theorem dX8_ways_57 : decode cX8_ways 57 = .ok (.aload_n 0, 1) := by decide +kernel
theorem dX8_ways_58 : decode cX8_ways 58 = .ok (.getfield 9, 3) := by decide +kernel
theorem dX8_ways_61 : decode cX8_ways 61 = .ok (.bipush 11, 2) := by decide +kernel
theorem dX8_ways_63 : decode cX8_ways 63 = .ok (.iload_n 2, 1) := by decide +kernel
theorem dX8_ways_64 : decode cX8_ways 64 = .ok (.iadd, 1) := by decide +kernel
theorem dX8_ways_65 : decode cX8_ways 65 = .ok (.iaload, 1) := by decide +kernel
theorem dX8_ways_66 : decode cX8_ways 66 = .ok (.iconst 1, 1) := by decide +kernel
theorem dX8_ways_67 : decode cX8_ways 67 = .ok (.iadd, 1) := by decide +kernel
theorem dX8_ways_68 : decode cX8_ways 68 = .ok (.iload_n 3, 1) := by decide +kernel
theorem dX8_ways_69 : decode cX8_ways 69 = .ok (.imul, 1) := by decide +kernel
theorem dX8_ways_70 : decode cX8_ways 70 = .ok (.istore 4, 2) := by decide +kernel
theorem dX8_ways_72 : decode cX8_ways 72 = .ok (.iload_n 3, 1) := by decide +kernel
theorem dX8_ways_73 : decode cX8_ways 73 = .ok (.istore 5, 2) := by decide +kernel
theorem dX8_ways_75 : decode cX8_ways 75 = .ok (.iload 5, 2) := by decide +kernel
theorem dX8_ways_77 : decode cX8_ways 77 = .ok (.iload_n 1, 1) := by decide +kernel
theorem dX8_ways_78 : decode cX8_ways 78 = .ok (.if_icmp .gt 28, 3) := by decide +kernel
theorem dX8_ways_81 : decode cX8_ways 81 = .ok (.aload_n 0, 1) := by decide +kernel
theorem dX8_ways_82 : decode cX8_ways 82 = .ok (.getfield 61, 3) := by decide +kernel
theorem dX8_ways_85 : decode cX8_ways 85 = .ok (.iload 5, 2) := by decide +kernel
theorem dX8_ways_87 : decode cX8_ways 87 = .ok (.dup2, 1) := by decide +kernel
theorem dX8_ways_88 : decode cX8_ways 88 = .ok (.laload, 1) := by decide +kernel
theorem dX8_ways_89 : decode cX8_ways 89 = .ok (.aload_n 0, 1) := by decide +kernel
theorem dX8_ways_90 : decode cX8_ways 90 = .ok (.getfield 61, 3) := by decide +kernel
theorem dX8_ways_93 : decode cX8_ways 93 = .ok (.iload 5, 2) := by decide +kernel
theorem dX8_ways_95 : decode cX8_ways 95 = .ok (.iload_n 3, 1) := by decide +kernel
theorem dX8_ways_96 : decode cX8_ways 96 = .ok (.isub, 1) := by decide +kernel
theorem dX8_ways_97 : decode cX8_ways 97 = .ok (.laload, 1) := by decide +kernel
theorem dX8_ways_98 : decode cX8_ways 98 = .ok (.ladd, 1) := by decide +kernel
theorem dX8_ways_99 : decode cX8_ways 99 = .ok (.lastore, 1) := by decide +kernel
theorem dX8_ways_100 : decode cX8_ways 100 = .ok (.iinc 5 1, 3) := by decide +kernel
theorem dX8_ways_103 : decode cX8_ways 103 = .ok (.goto (-28), 3) := by decide +kernel
theorem dX8_ways_106 : decode cX8_ways 106 = .ok (.iload_n 1, 1) := by decide +kernel
theorem dX8_ways_107 : decode cX8_ways 107 = .ok (.istore 5, 2) := by decide +kernel
theorem dX8_ways_109 : decode cX8_ways 109 = .ok (.iload 5, 2) := by decide +kernel
theorem dX8_ways_111 : decode cX8_ways 111 = .ok (.iload 4, 2) := by decide +kernel
theorem dX8_ways_113 : decode cX8_ways 113 = .ok (.if_icmp .lt 29, 3) := by decide +kernel
theorem dX8_ways_116 : decode cX8_ways 116 = .ok (.aload_n 0, 1) := by decide +kernel
theorem dX8_ways_117 : decode cX8_ways 117 = .ok (.getfield 61, 3) := by decide +kernel
theorem dX8_ways_120 : decode cX8_ways 120 = .ok (.iload 5, 2) := by decide +kernel
theorem dX8_ways_122 : decode cX8_ways 122 = .ok (.dup2, 1) := by decide +kernel
theorem dX8_ways_123 : decode cX8_ways 123 = .ok (.laload, 1) := by decide +kernel
theorem dX8_ways_124 : decode cX8_ways 124 = .ok (.aload_n 0, 1) := by decide +kernel
theorem dX8_ways_125 : decode cX8_ways 125 = .ok (.getfield 61, 3) := by decide +kernel
theorem dX8_ways_128 : decode cX8_ways 128 = .ok (.iload 5, 2) := by decide +kernel
theorem dX8_ways_130 : decode cX8_ways 130 = .ok (.iload 4, 2) := by decide +kernel
theorem dX8_ways_132 : decode cX8_ways 132 = .ok (.isub, 1) := by decide +kernel
theorem dX8_ways_133 : decode cX8_ways 133 = .ok (.laload, 1) := by decide +kernel
theorem dX8_ways_134 : decode cX8_ways 134 = .ok (.lsub, 1) := by decide +kernel
theorem dX8_ways_135 : decode cX8_ways 135 = .ok (.lastore, 1) := by decide +kernel
theorem dX8_ways_136 : decode cX8_ways 136 = .ok (.iinc 5 (-1), 3) := by decide +kernel
theorem dX8_ways_139 : decode cX8_ways 139 = .ok (.goto (-30), 3) := by decide +kernel
theorem dX8_ways_142 : decode cX8_ways 142 = .ok (.iinc 2 1, 3) := by decide +kernel
theorem dX8_ways_145 : decode cX8_ways 145 = .ok (.goto (-104), 3) := by decide +kernel
theorem dX8_ways_148 : decode cX8_ways 148 = .ok (.aload_n 0, 1) := by decide +kernel
theorem dX8_ways_149 : decode cX8_ways 149 = .ok (.getfield 61, 3) := by decide +kernel
theorem dX8_ways_152 : decode cX8_ways 152 = .ok (.iload_n 1, 1) := by decide +kernel
theorem dX8_ways_153 : decode cX8_ways 153 = .ok (.laload, 1) := by decide +kernel
theorem dX8_ways_154 : decode cX8_ways 154 = .ok (.lreturn, 1) := by decide +kernel
set_option maxHeartbeats 4000000 in
set_option maxRecDepth 100000 in
theorem m_X8_ways (l : Launch) (A : Int) (mem : Mem) (hA : i32 A) (hN : 0 ≤ mem 1 0 ∧ mem 1 0 ≤ 8) (hVl : ∀ i : Nat, (i : Int) < mem 1 0 → 1 ≤ mem 1 (3 + i) ∧ mem 1 (3 + i) ≤ 500) (hTl : ∀ k : Nat, k < 8 → 0 ≤ mem 1 (11 + k) ∧ mem 1 (11 + k) ≤ 99) : Ret shp l yX8_ways cX8_ways 6 (some .long) 4 [pR 0, pI A] mem (fun rv mv => ∃ z, rv = some (pL z) ∧ (∀ c, c ≠ 17 → mv c = mem c) ∧ z = if 0 ≤ A ∧ A ≤ 2500 then waysF (fun i => (mem 1 (3 + i)).toNat) (fun i => (mem 1 (11 + i)).toNat) (mem 1 0).toNat A.toNat else -1) := by
  refine ret_of (by decide +kernel) (Nat.le_of_ble_eq_true rfl) (fun X hX F G => ?_)
  show Ok shp X 6 0 [(0, pR 0), (1, pI A)] [] mem
  refine ok_iload_n F dX8_ways_0 1 rfl ?_
  refine ok_calls F [pI A] dX8_ways_1 kM_X8_isAmount kS_X8_isAmount kL_X8_307 rfl (by decide) (Nat.le_of_ble_eq_true rfl) rfl (m_X8_isAmount _ A mem (by omega)) ?_
  rintro _ _ ⟨rfl, rfl⟩
  refine ok_if_ne F 11 dX8_ways_4 (by decide) (by omega) (fun c_1 => ?_) (fun c_1 => ?_)
  · refine ok_iconst F dX8_ways_11 ?_
    refine ok_istore_n (lv' := [(2, pI 0), (0, pR 0), (1, pI A)]) F dX8_ways_12 (by decide) rfl ?_
    have hL_13 : ∀ (n_13 : Nat) (a : Int) (m : Mem), (0 ≤ a ∧ a ≤ A + 1 ∧ (∀ c, c ≠ 17 → m c = mem c) ∧ ∀ b : Nat, (b : Int) < a → m 17 b = if b = 0 then 1 else 0) → (A + 1 - a).toNat = n_13 → Ok shp X 6 13 [(0, pR 0), (1, pI A), (2, pI a)] [] m := by
      intro n_13
      induction n_13 using Nat.strongRecOn with
      | _ n_13 ih_13 =>
        intro a m hI_13 hn_13
        refine ok_iload_n F dX8_ways_13 2 rfl ?_
        refine ok_iload_n F dX8_ways_14 1 rfl ?_
        refine ok_icmp_gt F 39 dX8_ways_15 (by decide) (by omega) (by omega) (fun c_2 => ?_) (fun c_2 => ?_)
        · refine ok_iconst F dX8_ways_39 ?_
          refine ok_istore_n (lv' := [(2, pI 0), (0, pR 0), (1, pI A)]) F dX8_ways_40 (by decide) rfl ?_
          obtain ⟨w0, hw0⟩ : ∃ x : Nat → Int, x = m 17 := ⟨_, rfl⟩
          have hw1 : ∀ b, b ≤ A.toNat → w0 b = if b = 0 then 1 else 0 := fun b hb => by
            rw [hw0]
            exact hI_13.2.2.2 b (by omega)
          have hL_41 : ∀ (n_41 : Nat) (k : Int) (m8 : Mem), (0 ≤ k ∧ k ≤ mem 1 0 ∧ (∀ c, c ≠ 17 → m8 c = mem c) ∧ m8 17 = wayN (fun i => (mem 1 (3 + i)).toNat) (fun i => (mem 1 (11 + i)).toNat) A.toNat w0 k.toNat) → (mem 1 0 - k).toNat = n_41 → Ok shp X 6 41 [(0, pR 0), (1, pI A), (2, pI k)] [] m8 := by
            intro n_41
            induction n_41 using Nat.strongRecOn with
            | _ n_41 ih_41 =>
              intro k m8 hI_41 hn_41
              obtain ⟨hk0, hk1, hF8, hR8⟩ := hI_41
              have h1 : m8 1 = mem 1 := hF8 1 (by decide)
              refine ok_iload_n F dX8_ways_41 2 rfl ?_
              refine ok_aload_n F dX8_ways_42 0 rfl ?_
              refine ok_getr F dX8_ways_43 kF_X8_9 sh_0 rfl ?_
              refine ok_iconst F dX8_ways_46 ?_
              refine ok_iald (v := mem 1 0) F dX8_ways_47 sh_1 (by first | decide | assumption) (by omega) (by omega) (by rw [(hF8 1 (by decide))] <;> rfl) ?_
              refine ok_icmp_ge F 148 dX8_ways_48 (by decide) (by omega) (by omega) (fun c_3 => ?_) (fun c_3 => ?_)
              · refine ok_aload_n F dX8_ways_148 0 rfl ?_
                refine ok_getr F dX8_ways_149 kF_X8_61 sh_0 rfl ?_
                refine ok_iload_n F dX8_ways_152 1 rfl ?_
                refine ok_lald (v := m8 17 A.toNat) F dX8_ways_153 sh_17 (by first | decide | assumption) (by omega) (by omega) rfl ?_
                refine ok_lret F G dX8_ways_154 ?_
                refine ⟨_, rfl, hF8, ?_⟩
                rw [if_pos (by omega), hR8, show k = mem 1 0 by omega]
                exact wayN_congr hw1 _ (fun _ _ => ⟨rfl, rfl⟩) _ (Nat.le_refl _)
              · refine ok_aload_n F dX8_ways_51 0 rfl ?_
                refine ok_iload_n F dX8_ways_52 2 rfl ?_
                refine ok_callv F [pI k] dX8_ways_53 kM_X8_value kI_X8_value kV_X8_value kL_X8_191 (ci := 8) rfl sh_0 rfl (by decide) (Nat.le_of_ble_eq_true rfl) rfl (m_X8_value _ k m8 (by omega)) ?_
                rintro _ _ ⟨rfl, rfl⟩
                have q1 := hVl k.toNat (by omega)
                have q2 := hTl k.toNat (by omega)
                rw [← h1, show 3 + k.toNat = (3 + k).toNat by omega] at q1
                rw [← h1, show 11 + k.toNat = (11 + k).toNat by omega] at q2
                refine ok_istore_n (lv' := [(3, pI (m8 1 (3 + k).toNat)), (0, pR 0), (1, pI A), (2, pI k)]) F dX8_ways_56 (by decide) rfl ?_
                refine ok_aload_n F dX8_ways_57 1 rfl ?_
                refine ok_getr F dX8_ways_58 kF_X8_9 sh_0 rfl ?_
                refine ok_bipush F dX8_ways_61 rfl ?_
                refine ok_iload_n F dX8_ways_63 3 rfl ?_
                refine ok_iadd F dX8_ways_64 ?_
                refine ok_iald (v := mem 1 ((11 + k).toNat)) F dX8_ways_65 sh_1 (by first | decide | assumption) (by omega) (by omega) (by rw [(hF8 1 (by decide))] <;> rfl) ?_
                refine ok_iconst F dX8_ways_66 ?_
                refine ok_iadd F dX8_ways_67 ?_
                refine ok_iload_n F dX8_ways_68 0 rfl ?_
                refine ok_imul F dX8_ways_69 ?_
                refine ok_istore (lv' := [(4, pI (((mem 1 ((11 + k).toNat)) + 1) * (m8 1 (3 + k).toNat))), (3, pI (m8 1 (3 + k).toNat)), (0, pR 0), (1, pI A), (2, pI k)]) F dX8_ways_70 (by decide) rfl ?_
                have q3 := mul_bd (x := m8 1 (11 + k).toNat + 1) (X := 100) (by omega) (show 0 ≤ m8 1 (3 + k).toNat ∧ m8 1 (3 + k).toNat ≤ 500 from ⟨by omega, q1.2⟩)
                have q4 : 1 * m8 1 (3 + k).toNat ≤ (m8 1 (11 + k).toNat + 1) * m8 1 (3 + k).toNat := Int.mul_le_mul_of_nonneg_right (by omega) (by omega)
                try rw [h1] at q3 q4 q1
                refine ok_iload_n F dX8_ways_72 1 rfl ?_
                refine ok_istore (lv' := [(5, pI (m8 1 (3 + k).toNat)), (4, pI (((mem 1 ((11 + k).toNat)) + 1) * (m8 1 (3 + k).toNat))), (3, pI (m8 1 (3 + k).toNat)), (0, pR 0), (1, pI A), (2, pI k)]) F dX8_ways_73 (by decide) rfl ?_
                have hL_75 : ∀ (n_75 : Nat) (v : Int) (B : Int) (a : Int) (m5 : Mem), (((1 ≤ v ∧ v ≤ 500) ∧ v = mem 1 (3 + k).toNat ∧ 1 ≤ B ∧ B ≤ 50000 ∧ B = (mem 1 (11 + k).toNat + 1) * v) ∧ v ≤ a ∧ (a ≤ A + 1 ∨ a = v) ∧ (∀ c, c ≠ 17 → m5 c = m8 c) ∧ m5 17 = upN v.toNat (m8 17) (a - v).toNat) → (A + 1 - a).toNat = n_75 → Ok shp X 6 75 [(0, pR 0), (1, pI A), (2, pI k), (3, pI v), (4, pI B), (5, pI a)] [] m5 := by
                  intro n_75
                  induction n_75 using Nat.strongRecOn with
                  | _ n_75 ih_75 =>
                    intro v B a m5 hI_75 hn_75
                    obtain ⟨⟨hB1, hB2, hB3, hB4, hB5⟩, ha0, ha1, hF5, hR5⟩ := hI_75
                    refine ok_iload F dX8_ways_75 5 rfl ?_
                    refine ok_iload_n F dX8_ways_77 1 rfl ?_
                    refine ok_icmp_gt F 106 dX8_ways_78 (by decide) (by omega) (by omega) (fun c_4 => ?_) (fun c_4 => ?_)
                    · refine ok_iload_n F dX8_ways_106 1 rfl ?_
                      refine ok_istore (lv' := [(5, pI A), (0, pR 0), (1, pI A), (2, pI k), (3, pI v), (4, pI B)]) F dX8_ways_107 (by decide) rfl ?_
                      have hL_109 : ∀ (n_109 : Nat) (b : Int) (m9 : Mem), (-1 ≤ b ∧ b ≤ A ∧ (B - 1 ≤ b ∨ b = A) ∧ (∀ c, c ≠ 17 → m9 c = m8 c) ∧ m9 17 = dnN B.toNat A.toNat (upN v.toNat (m8 17) (A.toNat + 1 - v.toNat)) (A - b).toNat) → (b + 1).toNat = n_109 → Ok shp X 6 109 [(0, pR 0), (1, pI A), (2, pI k), (3, pI v), (4, pI B), (5, pI b)] [] m9 := by
                        intro n_109
                        induction n_109 using Nat.strongRecOn with
                        | _ n_109 ih_109 =>
                          intro b m9 hI_109 hn_109
                          refine ok_iload F dX8_ways_109 5 rfl ?_
                          refine ok_iload F dX8_ways_111 4 rfl ?_
                          refine ok_icmp_lt F 142 dX8_ways_113 (by decide) (by omega) (by omega) (fun c_5 => ?_) (fun c_5 => ?_)
                          · refine ok_iinc (lv' := [(2, pI (k + 1)), (0, pR 0), (1, pI A), (3, pI v), (4, pI B), (5, pI b)]) F dX8_ways_142 2 rfl (by decide) rfl ?_
                            refine ok_goto F 41 dX8_ways_145 (by decide) ?_
                            refine ok_lvp [1, 2, 0] (lv' := [(0, pR 0), (1, pI A), (2, pI (k + 1))]) rfl ?_
                            refine ih_41 _ ?_ (k + 1) m9 ?_ rfl
                            · omega
                            · have eB : B.toNat = ((mem 1 (11 + k).toNat).toNat + 1) * (mem 1 (3 + k).toNat).toNat := by rw [hB5, hB2]; exact toNat_beyond (by have := hTl k.toNat (by omega); rw [show 11 + k.toNat = (11 + k).toNat by omega] at this; omega) (by omega)
                              refine ⟨by omega, by omega, fun c c1 => by rw [hI_109.2.2.2.1 c c1]; exact hF8 c c1, ?_⟩
                              rw [hI_109.2.2.2.2, show (k + 1).toNat = k.toNat + 1 by omega, wayN_s, ← hR8]
                              show _ = dnN (((mem 1 (11 + k.toNat)).toNat + 1) * (mem 1 (3 + k.toNat)).toNat) A.toNat (upN (mem 1 (3 + k.toNat)).toNat (m8 17) (A.toNat + 1 - (mem 1 (3 + k.toNat)).toNat)) (A.toNat + 1 - ((mem 1 (11 + k.toNat)).toNat + 1) * (mem 1 (3 + k.toNat)).toNat)
                              rw [show 11 + k.toNat = (11 + k).toNat by omega, show 3 + k.toNat = (3 + k).toNat by omega, ← eB, ← hB2, show (A - b).toNat = A.toNat + 1 - B.toNat by omega]
                          · refine ok_aload_n F dX8_ways_116 0 rfl ?_
                            refine ok_getr F dX8_ways_117 kF_X8_61 sh_0 rfl ?_
                            refine ok_iload F dX8_ways_120 5 rfl ?_
                            refine ok_dup2 F dX8_ways_122 rfl rfl ?_
                            refine ok_lald (v := m9 17 b.toNat) F dX8_ways_123 sh_17 (by first | decide | assumption) (by omega) (by omega) rfl ?_
                            refine ok_aload_n F dX8_ways_124 0 rfl ?_
                            refine ok_getr F dX8_ways_125 kF_X8_61 sh_0 rfl ?_
                            refine ok_iload F dX8_ways_128 5 rfl ?_
                            refine ok_iload F dX8_ways_130 4 rfl ?_
                            refine ok_isub F dX8_ways_132 ?_
                            refine ok_lald (v := m9 17 ((b - B).toNat)) F dX8_ways_133 sh_17 (by first | decide | assumption) (by omega) (by omega) rfl ?_
                            refine ok_lsub F dX8_ways_134 ?_
                            refine ok_last F dX8_ways_135 sh_17 (by first | decide | assumption) (by omega) (by omega) (fun m_6 e_7 => ?_)
                            refine ok_iinc (lv' := [(5, pI (b + (-1))), (0, pR 0), (1, pI A), (2, pI k), (3, pI v), (4, pI B)]) F dX8_ways_136 5 rfl (by decide) rfl ?_
                            refine ok_goto F 109 dX8_ways_139 (by decide) ?_
                            refine ok_lvp [1, 2, 3, 4, 5, 0] (lv' := [(0, pR 0), (1, pI A), (2, pI k), (3, pI v), (4, pI B), (5, pI (b + (-1)))]) rfl ?_
                            refine ih_109 _ ?_ (b + (-1)) m_6 ?_ rfl
                            · omega
                            · refine ⟨by omega, by omega, by omega, fun c c1 => by rw [e_7, mset_nka c1]; exact hI_109.2.2.2.1 c c1, ?_⟩
                              funext b9
                              rw [e_7, show (A - (b + -1)).toNat = (A - b).toNat + 1 by omega]
                              show _ = (if b9 + (A - b).toNat = A.toNat then dnN B.toNat A.toNat (upN v.toNat (m8 17) (A.toNat + 1 - v.toNat)) (A - b).toNat b9 - dnN B.toNat A.toNat (upN v.toNat (m8 17) (A.toNat + 1 - v.toNat)) (A - b).toNat (b9 - B.toNat) else dnN B.toNat A.toNat (upN v.toNat (m8 17) (A.toNat + 1 - v.toNat)) (A - b).toNat b9)
                              rw [← hI_109.2.2.2.2]
                              by_cases e : b9 = b.toNat
                              · subst e; rw [mset_eq, if_pos (by omega), show b.toNat - B.toNat = (b - B).toNat by omega]
                              · rw [mset_ne (fun q => e q.2), if_neg (by omega)]
                      refine ok_lvp [1, 2, 3, 4, 5, 0] (lv' := [(0, pR 0), (1, pI A), (2, pI k), (3, pI v), (4, pI B), (5, pI A)]) rfl ?_
                      refine hL_109 _ A m5 ?_ rfl
                      exact ⟨by omega, by omega, by omega, hF5, by rw [Int.sub_self, hR5, show (a - v).toNat = A.toNat + 1 - v.toNat by omega]; rfl⟩
                    · refine ok_aload_n F dX8_ways_81 0 rfl ?_
                      refine ok_getr F dX8_ways_82 kF_X8_61 sh_0 rfl ?_
                      refine ok_iload F dX8_ways_85 5 rfl ?_
                      refine ok_dup2 F dX8_ways_87 rfl rfl ?_
                      refine ok_lald (v := m5 17 a.toNat) F dX8_ways_88 sh_17 (by first | decide | assumption) (by omega) (by omega) rfl ?_
                      refine ok_aload_n F dX8_ways_89 0 rfl ?_
                      refine ok_getr F dX8_ways_90 kF_X8_61 sh_0 rfl ?_
                      refine ok_iload F dX8_ways_93 5 rfl ?_
                      refine ok_iload_n F dX8_ways_95 3 rfl ?_
                      refine ok_isub F dX8_ways_96 ?_
                      refine ok_lald (v := m5 17 ((a - v).toNat)) F dX8_ways_97 sh_17 (by first | decide | assumption) (by omega) (by omega) rfl ?_
                      refine ok_ladd F dX8_ways_98 ?_
                      refine ok_last F dX8_ways_99 sh_17 (by first | decide | assumption) (by omega) (by omega) (fun m_8 e_9 => ?_)
                      refine ok_iinc (lv' := [(5, pI (a + 1)), (0, pR 0), (1, pI A), (2, pI k), (3, pI v), (4, pI B)]) F dX8_ways_100 5 rfl (by decide) rfl ?_
                      refine ok_goto F 75 dX8_ways_103 (by decide) ?_
                      refine ok_lvp [1, 2, 3, 4, 5, 0] (lv' := [(0, pR 0), (1, pI A), (2, pI k), (3, pI v), (4, pI B), (5, pI (a + 1))]) rfl ?_
                      refine ih_75 _ ?_ v B (a + 1) m_8 ?_ rfl
                      · omega
                      · refine ⟨⟨hB1, hB2, hB3, hB4, hB5⟩, by omega, by omega, fun c c1 => by rw [e_9, mset_nka c1]; exact hF5 c c1, ?_⟩
                        funext b
                        rw [e_9, show (a + 1 - v).toNat = (a - v).toNat + 1 by omega]
                        show _ = (if b = v.toNat + (a - v).toNat then upN v.toNat (m8 17) (a - v).toNat b + upN v.toNat (m8 17) (a - v).toNat (b - v.toNat) else upN v.toNat (m8 17) (a - v).toNat b)
                        rw [← hR5]
                        by_cases e : b = a.toNat
                        · subst e; rw [mset_eq, if_pos (by omega), show a.toNat - v.toNat = (a - v).toNat by omega]
                        · rw [mset_ne (fun q => e q.2), if_neg (by omega)]
                refine ok_lvp [3, 4, 5, 2, 1, 0] (lv' := [(0, pR 0), (1, pI A), (2, pI k), (3, pI (m8 1 (3 + k).toNat)), (4, pI (((mem 1 ((11 + k).toNat)) + 1) * (m8 1 (3 + k).toNat))), (5, pI (m8 1 (3 + k).toNat))]) rfl ?_
                refine hL_75 _ (m8 1 (3 + k).toNat) (((mem 1 ((11 + k).toNat)) + 1) * (m8 1 (3 + k).toNat)) (m8 1 (3 + k).toNat) m8 ?_ rfl
                try rw [h1]
                exact ⟨⟨by omega, rfl, by omega, by omega, rfl⟩, by omega, by omega, fun _ _ => rfl, by rw [Int.sub_self]; rfl⟩
          refine ok_lvp [1, 2, 0] (lv' := [(0, pR 0), (1, pI A), (2, pI 0)]) rfl ?_
          refine hL_41 _ 0 m ?_ rfl
          exact ⟨by omega, by omega, fun c c1 => hI_13.2.2.1 c c1, hw0.symm⟩
        · refine ok_aload_n F dX8_ways_18 0 rfl ?_
          refine ok_getr F dX8_ways_19 kF_X8_61 sh_0 rfl ?_
          refine ok_iload_n F dX8_ways_22 2 rfl ?_
          refine ok_iload_n F dX8_ways_23 2 rfl ?_
          refine ok_if_ne F 31 dX8_ways_24 (by decide) (by omega) (fun c_10 => ?_) (fun c_10 => ?_)
          · refine ok_lconst (z := 0) F dX8_ways_31 rfl ?_
            refine ok_last F dX8_ways_32 sh_17 (by first | decide | assumption) (by omega) (by omega) (fun m_11 e_12 => ?_)
            refine ok_iinc (lv' := [(2, pI (a + 1)), (0, pR 0), (1, pI A)]) F dX8_ways_33 2 rfl (by decide) rfl ?_
            refine ok_goto F 13 dX8_ways_36 (by decide) ?_
            refine ok_lvp [1, 2, 0] (lv' := [(0, pR 0), (1, pI A), (2, pI (a + 1))]) rfl ?_
            refine ih_13 _ ?_ (a + 1) m_11 ?_ rfl
            · omega
            · refine ⟨by omega, by omega, fun c c1 => by rw [e_12, mset_nka c1]; exact hI_13.2.2.1 c c1, fun b b2 => ?_⟩
              rw [e_12]
              by_cases e : b = a.toNat
              · subst e; rw [mset_eq]; first | (rw [if_pos (by omega)]; done) | (rw [if_neg (by omega)]; done)
              · rw [mset_ne (fun q => e q.2)]; exact hI_13.2.2.2 b (by omega)
          · refine ok_lconst (z := 1) F dX8_ways_27 rfl ?_
            refine ok_goto F 32 dX8_ways_28 (by decide) ?_
            refine ok_last F dX8_ways_32 sh_17 (by first | decide | assumption) (by omega) (by omega) (fun m_13 e_14 => ?_)
            refine ok_iinc (lv' := [(2, pI (a + 1)), (0, pR 0), (1, pI A)]) F dX8_ways_33 2 rfl (by decide) rfl ?_
            refine ok_goto F 13 dX8_ways_36 (by decide) ?_
            refine ok_lvp [1, 2, 0] (lv' := [(0, pR 0), (1, pI A), (2, pI (a + 1))]) rfl ?_
            refine ih_13 _ ?_ (a + 1) m_13 ?_ rfl
            · omega
            · refine ⟨by omega, by omega, fun c c1 => by rw [e_14, mset_nka c1]; exact hI_13.2.2.1 c c1, fun b b2 => ?_⟩
              rw [e_14]
              by_cases e : b = a.toNat
              · subst e; rw [mset_eq]; first | (rw [if_pos (by omega)]; done) | (rw [if_neg (by omega)]; done)
              · rw [mset_ne (fun q => e q.2)]; exact hI_13.2.2.2 b (by omega)
    refine ok_lvp [1, 2, 0] (lv' := [(0, pR 0), (1, pI A), (2, pI 0)]) rfl ?_
    refine hL_13 _ 0 mem ?_ rfl
    exact ⟨by omega, by omega, fun _ _ => rfl, fun b b2 => by omega⟩
  · refine ok_ldc2 (n := -1) F dX8_ways_7 kJ_X8_310 rfl ?_
    refine ok_lret F G dX8_ways_10 ?_
    exact ⟨_, rfl, fun _ _ => rfl, by rw [if_neg (by omega)]⟩
