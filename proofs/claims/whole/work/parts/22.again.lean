/-! the reference: days lived again and again -/
theorem fewT_congr {v c c' : Nat → Nat} : ∀ {k : Nat} (a : Nat), (∀ i, i < k → c i = c' i) → fewT v c k a = fewT v c' k a
  | 0, _, _ => rfl
  | k + 1, a, h => by
    show stepF (fewT v c k) (v k) (c k) a = stepF (fewT v c' k) (v k) (c' k) a
    rw [h k (Nat.lt_succ_self k)]
    exact stepF_congr (fun x _ => fewT_congr x (fun i hi => h i (Nat.lt_succ_of_lt hi)))
theorem takZ_congr {v c c' : Nat → Nat} {k a : Nat} (h : ∀ i, i < k + 1 → c i = c' i) : takZ v c k a = takZ v c' k a := by
  unfold takZ
  rw [h k (Nat.lt_succ_self k), fewT_congr (k := k + 1) a h]
  congr 1
  funext z
  rw [fewT_congr (k := k) _ (fun i hi => h i (Nat.lt_succ_of_lt hi))]
theorem takR_congr {v c c' : Nat → Nat} : ∀ {n : Nat} (a k : Nat), (∀ i, i < n → c i = c' i) → takR v c n a k = takR v c' n a k
  | 0, _, _, _ => rfl
  | n + 1, a, k, h => by
    show (if k = n then takZ v c n a else takR v c n (a - takZ v c n a * v n) k) = (if k = n then takZ v c' n a else takR v c' n (a - takZ v c' n a * v n) k)
    rw [takZ_congr h, takR_congr _ k (fun i hi => h i (Nat.lt_succ_of_lt hi))]
theorem anyN_congr {f g : Nat → Bool} : ∀ {n : Nat}, (∀ i, i < n → f i = g i) → anyN f n = anyN g n
  | 0, _ => rfl
  | n + 1, h => by
    unfold anyN
    rw [anyN_congr (fun i hi => h i (Nat.lt_succ_of_lt hi)), h n (Nat.lt_succ_self n)]
/-- a sale depends on the kinds' places of the row alone -/
theorem sale_congr {m1 w w' : Nat → Int} {s : Nat} (hN : m1 0 ≤ 8) (h : ∀ k, k < 8 → w k = w' k) : shortS m1 w s = shortS m1 w' s ∧ pcsS m1 w s = pcsS m1 w' s ∧ ∀ k, k < 8 → rowS m1 w s k = rowS m1 w' s k := by
  have e1 : ∀ i, i < 8 → stk m1 w s i = stk m1 w' s i := fun i hi => by unfold stk; rw [h i hi]
  have e2 : fewS m1 w s = fewS m1 w' s := fewT_congr _ (fun i hi => by rw [e1 i (by omega)])
  have e3 : ∀ k, takS m1 w s k = takS m1 w' s k := fun k => by unfold takS; rw [takR_congr (c' := fun i => (stk m1 w' s i).toNat) _ k (fun i hi => by rw [e1 i (by omega)])]
  have e4 : shortS m1 w s = shortS m1 w' s := by
    unfold shortS
    rw [e2, anyN_congr (g := overS m1 w' s) (fun i hi => by unfold overS; rw [e1 i (by omega), e3])]
  refine ⟨e4, by unfold pcsS; rw [e4, e2], fun k hk => by unfold rowS; rw [e4, e1 k hk, e3, h k hk]⟩
theorem lifeN_congr {m1 w w' low low' : Nat → Int} {d : Int} (hN : m1 0 ≤ 8) (h : ∀ k, k < 8 → w k = w' k) : ∀ n : Nat, (∀ k, k < 8 → (lifeN m1 d (life0 w low) n).1 k = (lifeN m1 d (life0 w' low') n).1 k) ∧ (∀ k, k < 8 → (lifeN m1 d (life0 w low) n).2.1 k = (lifeN m1 d (life0 w' low') n).2.1 k) ∧ (lifeN m1 d (life0 w low) n).2.2 = (lifeN m1 d (life0 w' low') n).2.2
  | 0 => ⟨h, fun k hk => by
      show (if k < 8 then w k else low k) = (if k < 8 then w' k else low' k)
      rw [if_pos hk, if_pos hk, h k hk], rfl⟩
  | n + 1 => by
    obtain ⟨i1, i2, i3⟩ := lifeN_congr (low := low) (low' := low') (d := d) hN h n
    unfold lifeN
    by_cases hd : sDay m1 n = d
    · rw [if_pos hd, if_pos hd]
      generalize lifeN m1 d (life0 w low) n = L at i1 i2 i3 ⊢
      generalize lifeN m1 d (life0 w' low') n = L' at i1 i2 i3 ⊢
      obtain ⟨a1, a2, a3, a4, a5, a6, a7, a8, a9⟩ := L
      obtain ⟨b1, b2, b3, b4, b5, b6, b7, b8, b9⟩ := L'
      dsimp only at i1 i2 i3
      obtain ⟨rfl, rfl, rfl, rfl, rfl, rfl, rfl⟩ : a3 = b3 ∧ a4 = b4 ∧ a5 = b5 ∧ a6 = b6 ∧ a7 = b7 ∧ a8 = b8 ∧ a9 = b9 := by
        simpa [Prod.mk.injEq] using i3
      obtain ⟨c1, c2, c3⟩ := sale_congr (s := n) hN i1
      refine ⟨fun k hk => c3 k hk, fun k hk => ?_, ?_⟩
      · show (if (k : Int) < m1 0 then min (a2 k) (rowS m1 a1 n k) else a2 k) = (if (k : Int) < m1 0 then min (b2 k) (rowS m1 b1 n k) else b2 k)
        rw [i2 k hk, c3 k hk]
      · have g : ∀ p q : Int, goneD (fun i => decide (rowS m1 a1 n i = 0) && decide (0 < a1 i)) a9 (m1 0).toNat p q = goneD (fun i => decide (rowS m1 b1 n i = 0) && decide (0 < b1 i)) a9 (m1 0).toNat p q := fun p q => goneD_congr (fun i hi => by rw [c3 i (by omega), i1 i (by omega)])
        unfold lifeS
        dsimp only
        rw [c1, c2, g]
    · rw [if_neg hd, if_neg hd]
      exact ⟨i1, i2, i3⟩
/-- a day lived t times, from a row on: the row then, and the least of each kind -/
def againN (m1 : Nat → Int) (d : Int) (n2 : Nat) (p : (Nat → Int) × (Nat → Int)) : Nat → (Nat → Int) × (Nat → Int)
  | 0 => p
  | t + 1 => ((lifeN m1 d (life0 (againN m1 d n2 p t).1 (againN m1 d n2 p t).2) n2).1, (lifeN m1 d (life0 (againN m1 d n2 p t).1 (againN m1 d n2 p t).2) n2).2.1)
theorem againN_bd {m1 : Nat → Int} {d : Int} {n2 : Nat} {p : (Nat → Int) × (Nat → Int)} (hN : m1 0 ≤ 8) (hg : ∀ s : Nat, s < n2 → ∀ k : Nat, k < 8 → 0 ≤ sGiven m1 s k) (h : ∀ k : Nat, k < 8 → 0 ≤ p.1 k ∧ p.1 k ≤ 99) : ∀ t : Nat, ∀ k : Nat, k < 8 → 0 ≤ (againN m1 d n2 p t).1 k ∧ (againN m1 d n2 p t).1 k ≤ 99
  | 0 => h
  | t + 1 => (lifeN_bd hN (life0_bd (againN_bd hN hg h t)) hg).1
/-- how many times a day can be lived, at most so many -/
def lastF (m1 : Nat → Int) (d : Int) (n2 : Nat) : Nat → (Nat → Int) → (Nat → Int) → Int
  | 0, _, _ => 0
  | f + 1, w, low => if (lifeN m1 d (life0 w low) n2).2.2.1 = 0 then 1 + lastF m1 d n2 f (lifeN m1 d (life0 w low) n2).1 (lifeN m1 d (life0 w low) n2).2.1 else 0
theorem lastF_s (m1 : Nat → Int) (d : Int) (n2 f : Nat) (w low : Nat → Int) : lastF m1 d n2 (f + 1) w low = if (lifeN m1 d (life0 w low) n2).2.2.1 = 0 then 1 + lastF m1 d n2 f (lifeN m1 d (life0 w low) n2).1 (lifeN m1 d (life0 w low) n2).2.1 else 0 := rfl
theorem dX8_behind_0 : decode cX8_behind 0 = .ok (.aload_n 0, 1) := by decide +kernel
theorem dX8_behind_1 : decode cX8_behind 1 = .ok (.iload_n 1, 1) := by decide +kernel
theorem dX8_behind_2 : decode cX8_behind 2 = .ok (.invokevirtual 285, 3) := by decide +kernel
theorem dX8_behind_5 : decode cX8_behind 5 = .ok (.ifCond .eq 23, 3) := by decide +kernel
theorem dX8_behind_8 : decode cX8_behind 8 = .ok (.iload_n 2, 1) := by decide +kernel
theorem dX8_behind_9 : decode cX8_behind 9 = .ok (.i2l, 1) := by decide +kernel
theorem dX8_behind_10 : decode cX8_behind 10 = .ok (.lconst 1, 1) := by decide +kernel
theorem dX8_behind_11 : decode cX8_behind 11 = .ok (.ldc2_w 330, 3) := by decide +kernel
theorem dX8_behind_14 : decode cX8_behind 14 = .ok (.invokestatic 100, 3) := by decide +kernel
theorem dX8_behind_17 : decode cX8_behind 17 = .ok (.ifCond .eq 11, 3) := by decide +kernel
theorem dX8_behind_20 : decode cX8_behind 20 = .ok (.aload_n 0, 1) := by decide +kernel
theorem dX8_behind_21 : decode cX8_behind 21 = .ok (.iload_n 3, 1) := by decide +kernel
theorem dX8_behind_22 : decode cX8_behind 22 = .ok (.invokevirtual 215, 3) := by decide +kernel
theorem dX8_behind_25 : decode cX8_behind 25 = .ok (.ifCond .ne 5, 3) := by decide +kernel
theorem dX8_behind_28 : decode cX8_behind 28 = .ok (.iconst (-1), 1) := by decide +kernel
theorem dX8_behind_29 : decode cX8_behind 29 = .ok (.ireturn, 1) := by decide +kernel
theorem dX8_behind_30 : decode cX8_behind 30 = .ok (.aload_n 0, 1) := by decide +kernel
theorem dX8_behind_31 : decode cX8_behind 31 = .ok (.invokevirtual 279, 3) := by decide +kernel
theorem dX8_behind_34 : decode cX8_behind 34 = .ok (.iconst 0, 1) := by decide +kernel
theorem dX8_behind_35 : decode cX8_behind 35 = .ok (.istore 4, 2) := by decide +kernel
theorem dX8_behind_37 : decode cX8_behind 37 = .ok (.iload 4, 2) := by decide +kernel
theorem dX8_behind_39 : decode cX8_behind 39 = .ok (.iload_n 2, 1) := by decide +kernel
theorem dX8_behind_40 : decode cX8_behind 40 = .ok (.if_icmp .ge 14, 3) := by decide +kernel
theorem dX8_behind_43 : decode cX8_behind 43 = .ok (.aload_n 0, 1) := by decide +kernel
theorem dX8_behind_44 : decode cX8_behind 44 = .ok (.iload_n 1, 1) := by decide +kernel
theorem dX8_behind_45 : decode cX8_behind 45 = .ok (.invokevirtual 282, 3) := by decide +kernel
theorem dX8_behind_48 : decode cX8_behind 48 = .ok (.iinc 4 1, 3) := by decide +kernel
theorem dX8_behind_51 : decode cX8_behind 51 = .ok (.goto (-14), 3) := by decide +kernel
theorem dX8_behind_54 : decode cX8_behind 54 = .ok (.aload_n 0, 1) := by decide +kernel
theorem dX8_behind_55 : decode cX8_behind 55 = .ok (.getfield 52, 3) := by decide +kernel
theorem dX8_behind_58 : decode cX8_behind 58 = .ok (.iload_n 3, 1) := by decide +kernel
theorem dX8_behind_59 : decode cX8_behind 59 = .ok (.iaload, 1) := by decide +kernel
theorem dX8_behind_60 : decode cX8_behind 60 = .ok (.ireturn, 1) := by decide +kernel
set_option maxHeartbeats 4000000 in
set_option maxRecDepth 100000 in
theorem m_X8_behind (l : Launch) (d : Int) (t : Int) (k : Int) (mem : Mem) (hd : i32 d) (ht : i32 t) (hk : i32 k) (hN1 : 0 ≤ mem 1 1 ∧ mem 1 1 ≤ 5) (hN : 0 ≤ mem 1 0 ∧ mem 1 0 ≤ 8) (hVl : ∀ i : Nat, (i : Int) < mem 1 0 → 1 ≤ mem 1 (3 + i) ∧ mem 1 (3 + i) ≤ 500) (hN2 : 0 ≤ mem 1 2 ∧ mem 1 2 ≤ 40) (hR : ∀ b, i32 (mem 1 b)) (hAb : ∀ s : Nat, (s : Int) < mem 1 2 → 0 ≤ abvS (mem 1) s ∧ abvS (mem 1) s ≤ 2500) (hG : ∀ s : Nat, (s : Int) < mem 1 2 → ∀ k : Nat, k < 8 → 0 ≤ sGiven (mem 1) s k ∧ sGiven (mem 1) s k ≤ 5) (hTl : ∀ k : Nat, k < 8 → 0 ≤ mem 1 (11 + k) ∧ mem 1 (11 + k) ≤ 99) : Ret shp l yX8_behind cX8_behind 5 (some .int) 7 [pR 0, pI d, pI t, pI k] mem (fun rv mv => ∃ z, rv = some (pI z) ∧ Keep mem mv ∧ z = if (0 ≤ d ∧ d < mem 1 1) ∧ (1 ≤ t ∧ t ≤ 20) ∧ 0 ≤ k ∧ k < mem 1 0 then (againN (mem 1) d (mem 1 2).toNat (tillW mem, mem 16) t.toNat).1 k.toNat else -1) := by
  refine ret_of (by decide +kernel) (Nat.le_of_ble_eq_true rfl) (fun X hX F G => ?_)
  show Ok shp X 5 0 [(0, pR 0), (1, pI d), (2, pI t), (3, pI k)] [] mem
  refine ok_aload_n F dX8_behind_0 0 rfl ?_
  refine ok_iload_n F dX8_behind_1 1 rfl ?_
  refine ok_callv F [pI d] dX8_behind_2 kM_X8_isDay kI_X8_isDay kV_X8_isDay kL_X8_285 (ci := 8) rfl sh_0 rfl (by decide) (Nat.le_of_ble_eq_true rfl) rfl (m_X8_isDay _ d mem (by omega) (by omega)) ?_
  rintro _ _ ⟨rfl, rfl⟩
  refine ok_if_eq F 28 dX8_behind_5 (by decide) (by first | omega | exact hR _) (fun c_1 => ?_) (fun c_1 => ?_)
  · refine ok_iconst F dX8_behind_28 ?_
    refine ok_iret F G dX8_behind_29 ?_
    exact ⟨_, rfl, Keep.rf _, by rw [if_neg (by omega)]⟩
  · refine ok_iload_n F dX8_behind_8 2 rfl ?_
    refine ok_i2l F dX8_behind_9 (by first | omega | exact hR _) ?_
    refine ok_lconst (z := 1) F dX8_behind_10 rfl ?_
    refine ok_ldc2 (n := 20) F dX8_behind_11 kJ_X8_330 rfl ?_
    refine ok_calls F [pL t, pL 1, pL 20] dX8_behind_14 kM_X8_in kS_X8_in kL_X8_100 rfl (by decide) (Nat.le_of_ble_eq_true rfl) rfl (m_X8_in _ t 1 20 mem (by omega) (by omega) (by omega)) ?_
    rintro _ _ ⟨rfl, rfl⟩
    refine ok_if_eq F 28 dX8_behind_17 (by decide) (by first | omega | exact hR _) (fun c_2 => ?_) (fun c_2 => ?_)
    · refine ok_iconst F dX8_behind_28 ?_
      refine ok_iret F G dX8_behind_29 ?_
      exact ⟨_, rfl, Keep.rf _, by rw [if_neg (by omega)]⟩
    · refine ok_aload_n F dX8_behind_20 0 rfl ?_
      refine ok_iload_n F dX8_behind_21 3 rfl ?_
      refine ok_callv F [pI k] dX8_behind_22 kM_X8_isKind kI_X8_isKind kV_X8_isKind kL_X8_215 (ci := 8) rfl sh_0 rfl (by decide) (Nat.le_of_ble_eq_true rfl) rfl (m_X8_isKind _ k mem (by omega) (by omega)) ?_
      rintro _ _ ⟨rfl, rfl⟩
      refine ok_if_ne F 30 dX8_behind_25 (by decide) (by first | omega | exact hR _) (fun c_3 => ?_) (fun c_3 => ?_)
      · refine ok_aload_n F dX8_behind_30 0 rfl ?_
        refine ok_callv F [] dX8_behind_31 kM_X8_laysWork kI_X8_laysWork kV_X8_laysWork kL_X8_279 (ci := 8) rfl sh_0 rfl (by decide) (Nat.le_of_ble_eq_true rfl) rfl (m_X8_laysWork _ mem) ?_
        rintro _ m_4 ⟨rfl, e_5⟩
        refine ok_iconst F dX8_behind_34 ?_
        refine ok_istore (lv' := [(4, pI 0), (0, pR 0), (1, pI d), (2, pI t), (3, pI k)]) F dX8_behind_35 (by decide) rfl ?_
        have em : m_4 = cpyN mem 1 11 14 0 8 := by assumption
        have gx : ∀ a, a ≠ 14 → m_4 a = mem a := fun a ha => by rw [em]; funext b; exact cpyN_ne ha
        have g14 : m_4 14 = tillW mem := by rw [em]; rfl
        have hL_37 : ∀ (n_37 : Nat) (j : Int) (m : Mem), (0 ≤ j ∧ j ≤ t ∧ (∀ a, a ≠ 0 → a ≠ 8 → a ≠ 9 → a ≠ 11 → a ≠ 14 → a ≠ 15 → a ≠ 16 → m a = mem a) ∧ (∀ j, (j < 21 ∨ 26 < j) → m 0 j = mem 0 j) ∧ m 14 = (againN (mem 1) d (mem 1 2).toNat (tillW mem, mem 16) j.toNat).1 ∧ m 16 = (againN (mem 1) d (mem 1 2).toNat (tillW mem, mem 16) j.toNat).2) → (t - j).toNat = n_37 → Ok shp X 5 37 [(0, pR 0), (1, pI d), (2, pI t), (3, pI k), (4, pI j)] [] m := by
          intro n_37
          induction n_37 using Nat.strongRecOn with
          | _ n_37 ih_37 =>
            intro j m hI_37 hn_37
            obtain ⟨hj0, hj1, hF, hF0, h14, h16⟩ := hI_37
            have h1 := hF 1 (by decide) (by decide) (by decide) (by decide) (by decide) (by decide) (by decide)
            refine ok_iload F dX8_behind_37 4 rfl ?_
            refine ok_iload_n F dX8_behind_39 2 rfl ?_
            refine ok_icmp_ge F 54 dX8_behind_40 (by decide) (by first | omega | exact hR _) (by first | omega | exact hR _) (fun c_6 => ?_) (fun c_6 => ?_)
            · refine ok_aload_n F dX8_behind_54 0 rfl ?_
              refine ok_getr F dX8_behind_55 kF_X8_52 sh_0 rfl ?_
              refine ok_iload_n F dX8_behind_58 3 rfl ?_
              refine ok_iald (v := m 14 k.toNat) F dX8_behind_59 sh_14 (by first | decide | assumption) (by first | omega | exact hR _) (by first | omega | exact hR _) rfl ?_
              refine ok_iret F G dX8_behind_60 ?_
              exact ⟨_, rfl, Keep.f7 hF hF0, by rw [if_pos (by omega), h14, show t = j by omega]⟩
            · refine ok_aload_n F dX8_behind_43 0 rfl ?_
              refine ok_iload_n F dX8_behind_44 1 rfl ?_
              refine ok_callv F [pI d] dX8_behind_45 kM_X8_lives kI_X8_lives kV_X8_lives kL_X8_282 (ci := 8) rfl sh_0 rfl (by decide) (Nat.le_of_ble_eq_true rfl) rfl (m_X8_lives _ d m (by omega) (by rw [h1]; exact hN) (by rw [h1]; exact hVl) (by rw [h1]; exact hN2) (by rw [h1]; exact hR) (by rw [h1]; exact hAb) (by rw [h1]; exact hG) (by rw [h14]; exact againN_bd hN.2 (fun s hs k hk => (hG s (by omega) k hk).1) (fun k hk => by show 0 ≤ tillW mem k ∧ tillW mem k ≤ 99; rw [tillW_at hk]; exact hTl k hk) _)) ?_
              rintro _ m_8 ⟨rfl, r_9⟩
              obtain ⟨q1, q2, nu, q3⟩ := id r_9
              refine ok_iinc (lv' := [(4, pI (j + 1)), (0, pR 0), (1, pI d), (2, pI t), (3, pI k)]) F dX8_behind_48 4 rfl (by decide) rfl ?_
              refine ok_goto F 37 dX8_behind_51 (by decide) ?_
              refine ok_lvp [1, 2, 3, 4, 0] (lv' := [(0, pR 0), (1, pI d), (2, pI t), (3, pI k), (4, pI (j + 1))]) rfl ?_
              refine ih_37 _ ?_ (j + 1) m_8 ?_ rfl
              · omega
              · refine ⟨by omega, by omega, fun a a0 a1 a2 a3 a4 a5 a6 => by rw [q1 a a0 a1 a2 a3 a4 a5 a6, hF a a0 a1 a2 a3 a4 a5 a6], fun i hi => by rw [q2 i hi, hF0 i hi], ?_, ?_⟩
                · rw [show (j + 1).toNat = j.toNat + 1 by omega, q3.1, h1, h14, h16]; rfl
                · rw [show (j + 1).toNat = j.toNat + 1 by omega, q3.2.1, h1, h14, h16]; rfl
        refine ok_lvp [1, 2, 3, 4, 0] (lv' := [(0, pR 0), (1, pI d), (2, pI t), (3, pI k), (4, pI 0)]) rfl ?_
        refine hL_37 _ 0 m_4 ?_ rfl
        exact ⟨by omega, by omega, fun a _ _ _ _ a4 _ _ => gx a a4, fun j hj => by rw [gx 0 (by decide)], g14, gx 16 (by decide)⟩
      · refine ok_iconst F dX8_behind_28 ?_
        refine ok_iret F G dX8_behind_29 ?_
        exact ⟨_, rfl, Keep.rf _, by rw [if_neg (by omega)]⟩
theorem dX8_lasts_0 : decode cX8_lasts 0 = .ok (.aload_n 0, 1) := by decide +kernel
theorem dX8_lasts_1 : decode cX8_lasts 1 = .ok (.iload_n 1, 1) := by decide +kernel
theorem dX8_lasts_2 : decode cX8_lasts 2 = .ok (.invokevirtual 285, 3) := by decide +kernel
theorem dX8_lasts_5 : decode cX8_lasts 5 = .ok (.ifCond .ne 5, 3) := by decide +kernel
theorem dX8_lasts_8 : decode cX8_lasts 8 = .ok (.iconst (-1), 1) := by decide +kernel
theorem dX8_lasts_9 : decode cX8_lasts 9 = .ok (.ireturn, 1) := by decide +kernel
theorem dX8_lasts_10 : decode cX8_lasts 10 = .ok (.aload_n 0, 1) := by decide +kernel
theorem dX8_lasts_11 : decode cX8_lasts 11 = .ok (.invokevirtual 279, 3) := by decide +kernel
theorem dX8_lasts_14 : decode cX8_lasts 14 = .ok (.iconst 0, 1) := by decide +kernel
theorem dX8_lasts_15 : decode cX8_lasts 15 = .ok (.istore_n 2, 1) := by decide +kernel
theorem dX8_lasts_16 : decode cX8_lasts 16 = .ok (.iconst 1, 1) := by decide +kernel
theorem dX8_lasts_17 : decode cX8_lasts 17 = .ok (.istore_n 3, 1) := by decide +kernel
theorem dX8_lasts_18 : decode cX8_lasts 18 = .ok (.iload_n 3, 1) := by decide +kernel
theorem dX8_lasts_19 : decode cX8_lasts 19 = .ok (.ifCond .eq 37, 3) := by decide +kernel
theorem dX8_lasts_22 : decode cX8_lasts 22 = .ok (.iload_n 2, 1) := by decide +kernel
theorem dX8_lasts_23 : decode cX8_lasts 23 = .ok (.bipush 50, 2) := by decide +kernel
theorem dX8_lasts_25 : decode cX8_lasts 25 = .ok (.if_icmp .ge 31, 3) := by decide +kernel
theorem dX8_lasts_28 : decode cX8_lasts 28 = .ok (.aload_n 0, 1) := by decide +kernel
theorem dX8_lasts_29 : decode cX8_lasts 29 = .ok (.iload_n 1, 1) := by decide +kernel
theorem dX8_lasts_30 : decode cX8_lasts 30 = .ok (.invokevirtual 282, 3) := by decide +kernel
theorem dX8_lasts_33 : decode cX8_lasts 33 = .ok (.aload_n 0, 1) := by decide +kernel
theorem dX8_lasts_34 : decode cX8_lasts 34 = .ok (.getfield 258, 3) := by decide +kernel
theorem dX8_lasts_37 : decode cX8_lasts 37 = .ok (.ifCond .ne 7, 3) := by decide +kernel
theorem dX8_lasts_40 : decode cX8_lasts 40 = .ok (.iconst 1, 1) := by decide +kernel
theorem dX8_lasts_41 : decode cX8_lasts 41 = .ok (.goto 4, 3) := by decide +kernel
theorem dX8_lasts_44 : decode cX8_lasts 44 = .ok (.iconst 0, 1) := by decide +kernel
theorem dX8_lasts_45 : decode cX8_lasts 45 = .ok (.istore_n 3, 1) := by decide +kernel
theorem dX8_lasts_46 : decode cX8_lasts 46 = .ok (.iload_n 2, 1) := by decide +kernel
theorem dX8_lasts_47 : decode cX8_lasts 47 = .ok (.iload_n 3, 1) := by decide +kernel
theorem dX8_lasts_48 : decode cX8_lasts 48 = .ok (.invokestatic 137, 3) := by decide +kernel
theorem dX8_lasts_51 : decode cX8_lasts 51 = .ok (.iadd, 1) := by decide +kernel
theorem dX8_lasts_52 : decode cX8_lasts 52 = .ok (.istore_n 2, 1) := by decide +kernel
theorem dX8_lasts_53 : decode cX8_lasts 53 = .ok (.goto (-35), 3) := by decide +kernel
theorem dX8_lasts_56 : decode cX8_lasts 56 = .ok (.iload_n 2, 1) := by decide +kernel
theorem dX8_lasts_57 : decode cX8_lasts 57 = .ok (.ireturn, 1) := by decide +kernel
set_option maxHeartbeats 4000000 in
set_option maxRecDepth 100000 in
theorem m_X8_lasts (l : Launch) (d : Int) (mem : Mem) (hd : i32 d) (hN1 : 0 ≤ mem 1 1 ∧ mem 1 1 ≤ 5) (hN : 0 ≤ mem 1 0 ∧ mem 1 0 ≤ 8) (hVl : ∀ i : Nat, (i : Int) < mem 1 0 → 1 ≤ mem 1 (3 + i) ∧ mem 1 (3 + i) ≤ 500) (hN2 : 0 ≤ mem 1 2 ∧ mem 1 2 ≤ 40) (hR : ∀ b, i32 (mem 1 b)) (hAb : ∀ s : Nat, (s : Int) < mem 1 2 → 0 ≤ abvS (mem 1) s ∧ abvS (mem 1) s ≤ 2500) (hG : ∀ s : Nat, (s : Int) < mem 1 2 → ∀ k : Nat, k < 8 → 0 ≤ sGiven (mem 1) s k ∧ sGiven (mem 1) s k ≤ 5) (hTl : ∀ k : Nat, k < 8 → 0 ≤ mem 1 (11 + k) ∧ mem 1 (11 + k) ≤ 99) : Ret shp l yX8_lasts cX8_lasts 4 (some .int) 7 [pR 0, pI d] mem (fun rv mv => ∃ z, rv = some (pI z) ∧ Keep mem mv ∧ z = if 0 ≤ d ∧ d < mem 1 1 then lastF (mem 1) d (mem 1 2).toNat 50 (tillW mem) (mem 16) else -1) := by
  refine ret_of (by decide +kernel) (Nat.le_of_ble_eq_true rfl) (fun X hX F G => ?_)
  show Ok shp X 4 0 [(0, pR 0), (1, pI d)] [] mem
  refine ok_aload_n F dX8_lasts_0 0 rfl ?_
  refine ok_iload_n F dX8_lasts_1 1 rfl ?_
  refine ok_callv F [pI d] dX8_lasts_2 kM_X8_isDay kI_X8_isDay kV_X8_isDay kL_X8_285 (ci := 8) rfl sh_0 rfl (by decide) (Nat.le_of_ble_eq_true rfl) rfl (m_X8_isDay _ d mem (by omega) (by omega)) ?_
  rintro _ _ ⟨rfl, rfl⟩
  refine ok_if_ne F 10 dX8_lasts_5 (by decide) (by first | omega | exact hR _) (fun c_1 => ?_) (fun c_1 => ?_)
  · refine ok_aload_n F dX8_lasts_10 0 rfl ?_
    refine ok_callv F [] dX8_lasts_11 kM_X8_laysWork kI_X8_laysWork kV_X8_laysWork kL_X8_279 (ci := 8) rfl sh_0 rfl (by decide) (Nat.le_of_ble_eq_true rfl) rfl (m_X8_laysWork _ mem) ?_
    rintro _ m_2 ⟨rfl, e_3⟩
    refine ok_iconst F dX8_lasts_14 ?_
    refine ok_istore_n (lv' := [(2, pI 0), (0, pR 0), (1, pI d)]) F dX8_lasts_15 (by decide) rfl ?_
    refine ok_iconst F dX8_lasts_16 ?_
    refine ok_istore_n (lv' := [(3, pI 1), (2, pI 0), (0, pR 0), (1, pI d)]) F dX8_lasts_17 (by decide) rfl ?_
    have em : m_2 = cpyN mem 1 11 14 0 8 := by assumption
    have gx : ∀ a, a ≠ 14 → m_2 a = mem a := fun a ha => by rw [em]; funext b; exact cpyN_ne ha
    have g14 : m_2 14 = tillW mem := by rw [em]; rfl
    have hL_18 : ∀ (n_18 : Nat) (n : Int) (g : Int) (m : Mem), (0 ≤ n ∧ n ≤ 50 ∧ (∀ a, a ≠ 0 → a ≠ 8 → a ≠ 9 → a ≠ 11 → a ≠ 14 → a ≠ 15 → a ≠ 16 → m a = mem a) ∧ (∀ j, (j < 21 ∨ 26 < j) → m 0 j = mem 0 j) ∧ (∀ k : Nat, k < 8 → 0 ≤ m 14 k ∧ m 14 k ≤ 99) ∧ (g = 1 ∧ lastF (mem 1) d (mem 1 2).toNat 50 (tillW mem) (mem 16) = n + lastF (mem 1) d (mem 1 2).toNat (50 - n).toNat (m 14) (m 16) ∨ g = 0 ∧ lastF (mem 1) d (mem 1 2).toNat 50 (tillW mem) (mem 16) = n)) → (if g = 1 then 51 - n else 0 : Int).toNat = n_18 → Ok shp X 4 18 [(0, pR 0), (1, pI d), (2, pI n), (3, pI g)] [] m := by
      intro n_18
      induction n_18 using Nat.strongRecOn with
      | _ n_18 ih_18 =>
        intro n g m hI_18 hn_18
        obtain ⟨hj0, hj1, hF, hF0, hw, hc⟩ := hI_18
        have h1 := hF 1 (by decide) (by decide) (by decide) (by decide) (by decide) (by decide) (by decide)
        refine ok_iload_n F dX8_lasts_18 3 rfl ?_
        refine ok_if_eq F 56 dX8_lasts_19 (by decide) (by omega) (fun c_4 => ?_) (fun c_4 => ?_)
        · refine ok_iload_n F dX8_lasts_56 2 rfl ?_
          refine ok_iret F G dX8_lasts_57 ?_
          refine ⟨_, rfl, Keep.f7 hF hF0, ?_⟩
          rw [if_pos (by omega)]
          rcases hc with ⟨c1, c2⟩ | ⟨c1, c2⟩
          · rw [c2, show (50 - n).toNat = 0 by omega]; show n = n + 0; omega
          · exact c2.symm
        · refine ok_iload_n F dX8_lasts_22 2 rfl ?_
          refine ok_bipush F dX8_lasts_23 rfl ?_
          refine ok_icmp_ge F 56 dX8_lasts_25 (by decide) (by first | omega | exact hR _) (by first | omega | exact hR _) (fun c_5 => ?_) (fun c_5 => ?_)
          · refine ok_iload_n F dX8_lasts_56 2 rfl ?_
            refine ok_iret F G dX8_lasts_57 ?_
            refine ⟨_, rfl, Keep.f7 hF hF0, ?_⟩
            rw [if_pos (by omega)]
            rcases hc with ⟨c1, c2⟩ | ⟨c1, c2⟩
            · rw [c2, show (50 - n).toNat = 0 by omega]; show n = n + 0; omega
            · exact c2.symm
          · refine ok_aload_n F dX8_lasts_28 0 rfl ?_
            refine ok_iload_n F dX8_lasts_29 1 rfl ?_
            refine ok_callv F [pI d] dX8_lasts_30 kM_X8_lives kI_X8_lives kV_X8_lives kL_X8_282 (ci := 8) rfl sh_0 rfl (by decide) (Nat.le_of_ble_eq_true rfl) rfl (m_X8_lives _ d m (by omega) (by rw [h1]; exact hN) (by rw [h1]; exact hVl) (by rw [h1]; exact hN2) (by rw [h1]; exact hR) (by rw [h1]; exact hAb) (by rw [h1]; exact hG) (hw)) ?_
            rintro _ m_7 ⟨rfl, r_8⟩
            obtain ⟨q1, q2, nu, q3⟩ := id r_8
            have qb := (lifeN_bd (d := d) hN.2 (life0_bd (low := m 16) hw) (n := (mem 1 2).toNat) (fun s hs k hk => (hG s (by omega) k hk).1)).2.2.1
            have e21x := q3.2.2.1
            rw [h1] at e21x
            rw [← e21x] at qb
            refine ok_aload_n F dX8_lasts_33 0 rfl ?_
            refine ok_getf (v := m_7 0 21) F dX8_lasts_34 kF_X8_258 sh_0 rfl rfl ?_
            refine ok_if_ne F 44 dX8_lasts_37 (by decide) (by first | omega | exact hR _) (fun c_9 => ?_) (fun c_9 => ?_)
            · refine ok_iconst F dX8_lasts_44 ?_
              refine ok_istore_n (lv' := [(3, pI 0), (0, pR 0), (1, pI d), (2, pI n)]) F dX8_lasts_45 (by decide) rfl ?_
              refine ok_iload_n F dX8_lasts_46 3 rfl ?_
              refine ok_iload_n F dX8_lasts_47 0 rfl ?_
              refine ok_calls F [pI 0] dX8_lasts_48 kM_X8_truth kS_X8_truth kL_X8_137 rfl (by decide) (Nat.le_of_ble_eq_true rfl) rfl (m_X8_truth _ 0 m_7 (by omega)) ?_
              rintro _ _ ⟨rfl, rfl⟩
              refine ok_iadd F dX8_lasts_51 ?_
              refine ok_istore_n (lv' := [(2, pI (n + (if 0 = 0 then 0 else 1))), (3, pI 0), (0, pR 0), (1, pI d)]) F dX8_lasts_52 (by decide) rfl ?_
              refine ok_goto F 18 dX8_lasts_53 (by decide) ?_
              refine ok_lvp [2, 3, 0, 1] (lv' := [(0, pR 0), (1, pI d), (2, pI (n + (if 0 = 0 then 0 else 1))), (3, pI 0)]) rfl ?_
              refine ih_18 _ ?_ (n + (if 0 = 0 then 0 else 1)) 0 m_7 ?_ rfl
              · (have hg1 : g = 1 := by rcases hc with z | z <;> omega)
                omega
              · have hl := hc.resolve_right (fun z => by omega)
                have e50 : (50 - n).toNat = (50 - (n + 1)).toNat + 1 := by omega
                have el := hl.2
                rw [e50, lastF_s (mem 1) d (mem 1 2).toNat (50 - (n + 1)).toNat (m 14) (m 16)] at el
                rw [h1] at q3
                have e21 := q3.2.2.1
                refine ⟨by omega, by omega, fun a a0 a1 a2 a3 a4 a5 a6 => by rw [q1 a a0 a1 a2 a3 a4 a5 a6, hF a a0 a1 a2 a3 a4 a5 a6], fun i hi => by rw [q2 i hi, hF0 i hi], fun k hk => by rw [q3.1]; exact (lifeN_bd hN.2 (life0_bd hw) (fun s hs k hk => (hG s (by omega) k hk).1)).1 k hk, ?_⟩
                first
                  | (left; rw [if_pos (by omega)] at el; rw [q3.1, q3.2.1]; refine ⟨rfl, ?_⟩; rw [show (n + (if (1 : Int) = 0 then (0 : Int) else 1)) = n + 1 from rfl, el]; omega)
                  | (right; rw [if_neg (by omega)] at el; refine ⟨rfl, ?_⟩; rw [el]; omega)
            · refine ok_iconst F dX8_lasts_40 ?_
              refine ok_goto F 45 dX8_lasts_41 (by decide) ?_
              refine ok_istore_n (lv' := [(3, pI 1), (0, pR 0), (1, pI d), (2, pI n)]) F dX8_lasts_45 (by decide) rfl ?_
              refine ok_iload_n F dX8_lasts_46 3 rfl ?_
              refine ok_iload_n F dX8_lasts_47 0 rfl ?_
              refine ok_calls F [pI 1] dX8_lasts_48 kM_X8_truth kS_X8_truth kL_X8_137 rfl (by decide) (Nat.le_of_ble_eq_true rfl) rfl (m_X8_truth _ 1 m_7 (by omega)) ?_
              rintro _ _ ⟨rfl, rfl⟩
              refine ok_iadd F dX8_lasts_51 ?_
              refine ok_istore_n (lv' := [(2, pI (n + (if 1 = 0 then 0 else 1))), (3, pI 1), (0, pR 0), (1, pI d)]) F dX8_lasts_52 (by decide) rfl ?_
              refine ok_goto F 18 dX8_lasts_53 (by decide) ?_
              refine ok_lvp [2, 3, 0, 1] (lv' := [(0, pR 0), (1, pI d), (2, pI (n + (if 1 = 0 then 0 else 1))), (3, pI 1)]) rfl ?_
              refine ih_18 _ ?_ (n + (if 1 = 0 then 0 else 1)) 1 m_7 ?_ rfl
              · (have hg1 : g = 1 := by rcases hc with z | z <;> omega)
                omega
              · have hl := hc.resolve_right (fun z => by omega)
                have e50 : (50 - n).toNat = (50 - (n + 1)).toNat + 1 := by omega
                have el := hl.2
                rw [e50, lastF_s (mem 1) d (mem 1 2).toNat (50 - (n + 1)).toNat (m 14) (m 16)] at el
                rw [h1] at q3
                have e21 := q3.2.2.1
                refine ⟨by omega, by omega, fun a a0 a1 a2 a3 a4 a5 a6 => by rw [q1 a a0 a1 a2 a3 a4 a5 a6, hF a a0 a1 a2 a3 a4 a5 a6], fun i hi => by rw [q2 i hi, hF0 i hi], fun k hk => by rw [q3.1]; exact (lifeN_bd hN.2 (life0_bd hw) (fun s hs k hk => (hG s (by omega) k hk).1)).1 k hk, ?_⟩
                first
                  | (left; rw [if_pos (by omega)] at el; rw [q3.1, q3.2.1]; refine ⟨rfl, ?_⟩; rw [show (n + (if (1 : Int) = 0 then (0 : Int) else 1)) = n + 1 from rfl, el]; omega)
                  | (right; rw [if_neg (by omega)] at el; refine ⟨rfl, ?_⟩; rw [el]; omega)
    refine ok_lvp [2, 3, 1, 0] (lv' := [(0, pR 0), (1, pI d), (2, pI 0), (3, pI 1)]) rfl ?_
    refine hL_18 _ 0 1 m_2 ?_ rfl
    refine ⟨by omega, by omega, fun a _ _ _ _ a4 _ _ => gx a a4, fun j hj => by rw [gx 0 (by decide)], fun k hk => by rw [g14, tillW_at hk]; exact hTl k hk, Or.inl ⟨rfl, ?_⟩⟩
    rw [g14, gx 16 (by decide), Int.zero_add]
    rfl
  · refine ok_iconst F dX8_lasts_8 ?_
    refine ok_iret F G dX8_lasts_9 ?_
    exact ⟨_, rfl, Keep.rf _, by rw [if_neg (by omega)]⟩
