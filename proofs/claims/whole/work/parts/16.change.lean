/-! the reference: the table of fewest pieces, the row that is taken, change -/
/-- the fewest pieces of the first k kinds (values v, so many c) that are together a; a million: none are -/
def fewT (v c : Nat → Nat) : Nat → Nat → Int
  | 0, a => if a = 0 then 0 else 1000000
  | k + 1, a => stepF (fewT v c k) (v k) (c k) a
theorem winF_congr {f g : Nat → Int} {v a : Nat} (h : ∀ x, x ≤ a → f x = g x) : ∀ c, winF f v a c = winF g v a c
  | 0 => h a (Nat.le_refl _)
  | c + 1 => by
    unfold winF
    rw [winF_congr h c, h (a - (c + 1) * v) (Nat.sub_le _ _)]
theorem stepF_congr {f g : Nat → Int} {v c a : Nat} (h : ∀ x, x ≤ a → f x = g x) : stepF f v c a = stepF g v c a := by
  unfold stepF
  rw [winF_congr h]
theorem fewT_bd (v c : Nat → Nat) : ∀ k a, 0 ≤ fewT v c k a ∧ fewT v c k a ≤ 1000000
  | 0, a => by
    unfold fewT
    split <;> omega
  | k + 1, a => by
    unfold fewT stepF
    obtain ⟨z, h1, h2, h3⟩ := winF_at (fewT v c k) (v k) a (c k)
    have := fewT_bd v c k (a - z * v k)
    rw [h3]
    omega
/-- the last z up to n for which something is so; 0 where none is -/
def lastZ (P : Nat → Bool) : Nat → Nat
  | 0 => 0
  | n + 1 => if P (n + 1) = true then n + 1 else lastZ P n
theorem lastZ_of {P : Nat → Bool} : ∀ {n z : Nat}, z ≤ n → P z = true → (∀ w, z < w → w ≤ n → P w = false) → lastZ P n = z
  | 0, z, h, _, _ => by simp [lastZ]; omega
  | n + 1, z, h, hz, hw => by
    unfold lastZ
    by_cases e : z = n + 1
    · subst e
      rw [if_pos hz]
    · rw [if_neg (by rw [hw (n + 1) (by omega) (Nat.le_refl _)]; decide)]
      exact lastZ_of (by omega) hz (fun w h1 h2 => hw w h1 (by omega))
/-- how many of kind k the row for a has -/
def takZ (v c : Nat → Nat) (k a : Nat) : Nat := lastZ (fun z => decide (z * v k ≤ a ∧ fewT v c k (a - z * v k) + z = fewT v c (k + 1) a)) (c k)
/-- what is left for the kinds below k of an amount of the first n kinds -/
def takL (v c : Nat → Nat) : Nat → Nat → Nat → Nat
  | 0, a, _ => a
  | n + 1, a, k => if n < k then a else takL v c n (a - takZ v c n a * v n) k
/-- the row of an amount -/
def takR (v c : Nat → Nat) : Nat → Nat → Nat → Nat
  | 0, _, _ => 0
  | n + 1, a, k => if k = n then takZ v c n a else takR v c n (a - takZ v c n a * v n) k
theorem takL_top (v c : Nat → Nat) : ∀ n a, takL v c n a n = a
  | 0, _ => rfl
  | n + 1, a => if_pos (Nat.lt_succ_self n)
theorem takL_step (v c : Nat → Nat) : ∀ n a k, k < n → takL v c n a k = takL v c n a (k + 1) - takZ v c k (takL v c n a (k + 1)) * v k
  | 0, _, _, h => by omega
  | n + 1, a, k, h => by
    by_cases e : k = n
    · subst e
      rw [takL_top v c (k + 1) a]
      show (if k < k then a else takL v c k (a - takZ v c k a * v k) k) = _
      rw [if_neg (Nat.lt_irrefl k), takL_top]
    · show (if n < k then a else takL v c n (a - takZ v c n a * v n) k) = _
      have e2 : takL v c (n + 1) a (k + 1) = takL v c n (a - takZ v c n a * v n) (k + 1) := if_neg (by omega)
      rw [if_neg (by omega), e2]
      exact takL_step v c n _ k (by omega)
theorem takR_eq (v c : Nat → Nat) : ∀ n a k, k < n → takR v c n a k = takZ v c k (takL v c n a (k + 1))
  | 0, _, _, h => by omega
  | n + 1, a, k, h => by
    by_cases e : k = n
    · subst e
      rw [takL_top v c (k + 1) a]
      exact if_pos rfl
    · have e2 : takL v c (n + 1) a (k + 1) = takL v c n (a - takZ v c n a * v n) (k + 1) := if_neg (by omega)
      show (if k = n then takZ v c n a else takR v c n (a - takZ v c n a * v n) k) = _
      rw [if_neg e, e2]
      exact takR_eq v c n _ k (by omega)
theorem takR_ge (v c : Nat → Nat) : ∀ n a k, n ≤ k → takR v c n a k = 0
  | 0, _, _, _ => rfl
  | n + 1, a, k, h => by
    show (if k = n then takZ v c n a else takR v c n (a - takZ v c n a * v n) k) = _
    rw [if_neg (by omega)]
    exact takR_ge v c n _ k (by omega)
/-- where there is a row there is a number of the last kind for it -/
theorem fewT_at {v c : Nat → Nat} {k a : Nat} (h : fewT v c (k + 1) a < 1000000) : ∃ z, z ≤ c k ∧ z * v k ≤ a ∧ fewT v c k (a - z * v k) + z = fewT v c (k + 1) a := by
  obtain ⟨z, h1, h2, h3⟩ := winF_at (fewT v c k) (v k) a (c k)
  refine ⟨z, h1, h2, ?_⟩
  have e : fewT v c (k + 1) a = min 1000000 (winF (fewT v c k) (v k) a (c k)) := rfl
  omega
theorem takZ_of {v c : Nat → Nat} {k a z : Nat} (h1 : z ≤ c k) (h2 : z * v k ≤ a) (h3 : fewT v c k (a - z * v k) + z = fewT v c (k + 1) a) (h4 : ∀ w, z < w → w ≤ c k → ¬ (w * v k ≤ a ∧ fewT v c k (a - w * v k) + w = fewT v c (k + 1) a)) : takZ v c k a = z :=
  lastZ_of h1 (decide_eq_true ⟨h2, h3⟩) (fun w a1 a2 => decide_eq_false (h4 w a1 a2))
theorem dX8_laysFewest_0 : decode cX8_laysFewest 0 = .ok (.iconst 0, 1) := by decide +kernel
theorem dX8_laysFewest_1 : decode cX8_laysFewest 1 = .ok (.istore 5, 2) := by decide +kernel
theorem dX8_laysFewest_3 : decode cX8_laysFewest 3 = .ok (.iload 5, 2) := by decide +kernel
theorem dX8_laysFewest_5 : decode cX8_laysFewest 5 = .ok (.iload 4, 2) := by decide +kernel
theorem dX8_laysFewest_7 : decode cX8_laysFewest 7 = .ok (.if_icmp .gt 27, 3) := by decide +kernel
theorem dX8_laysFewest_10 : decode cX8_laysFewest 10 = .ok (.aload_n 0, 1) := by decide +kernel
theorem dX8_laysFewest_11 : decode cX8_laysFewest 11 = .ok (.getfield 33, 3) := by decide +kernel
theorem dX8_laysFewest_14 : decode cX8_laysFewest 14 = .ok (.iload 5, 2) := by decide +kernel
theorem dX8_laysFewest_16 : decode cX8_laysFewest 16 = .ok (.iload 5, 2) := by decide +kernel
theorem dX8_laysFewest_18 : decode cX8_laysFewest 18 = .ok (.ifCond .ne 7, 3) := by decide +kernel
theorem dX8_laysFewest_21 : decode cX8_laysFewest 21 = .ok (.iconst 0, 1) := by decide +kernel
theorem dX8_laysFewest_22 : decode cX8_laysFewest 22 = .ok (.goto 5, 3) := by decide +kernel
theorem dX8_laysFewest_25 : decode cX8_laysFewest 25 = .ok (.ldc 197, 2) := by decide +kernel
theorem dX8_laysFewest_27 : decode cX8_laysFewest 27 = .ok (.iastore, 1) := by decide +kernel
theorem dX8_laysFewest_28 : decode cX8_laysFewest 28 = .ok (.iinc 5 1, 3) := by decide +kernel
theorem dX8_laysFewest_31 : decode cX8_laysFewest 31 = .ok (.goto (-28), 3) := by decide +kernel
theorem dX8_laysFewest_34 : decode cX8_laysFewest 34 = .ok (.iconst 0, 1) := by decide +kernel
theorem dX8_laysFewest_35 : decode cX8_laysFewest 35 = .ok (.istore 5, 2) := by decide +kernel
theorem dX8_laysFewest_37 : decode cX8_laysFewest 37 = .ok (.iload 5, 2) := by decide +kernel
theorem dX8_laysFewest_39 : decode cX8_laysFewest 39 = .ok (.iload_n 3, 1) := by decide +kernel
theorem dX8_laysFewest_40 : decode cX8_laysFewest 40 = .ok (.if_icmp .ge 23, 3) := by decide +kernel
theorem dX8_laysFewest_43 : decode cX8_laysFewest 43 = .ok (.aload_n 0, 1) := by decide +kernel
theorem dX8_laysFewest_44 : decode cX8_laysFewest 44 = .ok (.iload 5, 2) := by decide +kernel
theorem dX8_laysFewest_46 : decode cX8_laysFewest 46 = .ok (.aload_n 1, 1) := by decide +kernel
theorem dX8_laysFewest_47 : decode cX8_laysFewest 47 = .ok (.iload_n 2, 1) := by decide +kernel
theorem dX8_laysFewest_48 : decode cX8_laysFewest 48 = .ok (.iload 5, 2) := by decide +kernel
theorem dX8_laysFewest_50 : decode cX8_laysFewest 50 = .ok (.iadd, 1) := by decide +kernel
theorem dX8_laysFewest_51 : decode cX8_laysFewest 51 = .ok (.iaload, 1) := by decide +kernel
theorem dX8_laysFewest_52 : decode cX8_laysFewest 52 = .ok (.iload 4, 2) := by decide +kernel
theorem dX8_laysFewest_54 : decode cX8_laysFewest 54 = .ok (.invokevirtual 198, 3) := by decide +kernel
theorem dX8_laysFewest_57 : decode cX8_laysFewest 57 = .ok (.iinc 5 1, 3) := by decide +kernel
theorem dX8_laysFewest_60 : decode cX8_laysFewest 60 = .ok (.goto (-23), 3) := by decide +kernel
theorem dX8_laysFewest_63 : decode cX8_laysFewest 63 = .ok (.return_, 1) := by decide +kernel
set_option maxHeartbeats 4000000 in
set_option maxRecDepth 100000 in
theorem m_X8_laysFewest (l : Launch) (R : Nat) (f : Int) (n : Int) (M : Int) (mem : Mem) (nR : Nat) (hR : shp[R]? = some (.inr (.inl (0, nR)))) (hnR : nR < 2 ^ 31) (hR8 : R ≠ 8) (hR9 : R ≠ 9) (hfn : 0 ≤ f ∧ f + n ≤ nR) (hn : 0 ≤ n ∧ n ≤ 8) (hM : 0 ≤ M ∧ M ≤ 2500) (hV : ∀ i : Nat, (i : Int) < n → 1 ≤ mem 1 (3 + i) ∧ mem 1 (3 + i) ≤ 500) (hC : ∀ i : Nat, (i : Int) < n → 0 ≤ mem R (f.toNat + i) ∧ mem R (f.toNat + i) ≤ 200) : Ret shp l yX8_laysFewest cX8_laysFewest 6 none 2 [pR 0, pR R, pI f, pI n, pI M] mem (fun rv mv => rv = none ∧ (∀ a, a ≠ 8 → a ≠ 9 → mv a = mem a) ∧ ∀ k, k ≤ (n.toNat) → ∀ x : Nat, x ≤ M.toNat → mv 8 (2501 * k + x) = fewT (fun i => (mem 1 (3 + i)).toNat) (fun i => (mem R (f.toNat + i)).toNat) k x) := by
  refine ret_of (by decide +kernel) (Nat.le_of_ble_eq_true rfl) (fun X hX F G => ?_)
  show Ok shp X 6 0 [(0, pR 0), (1, pR R), (2, pI f), (3, pI n), (4, pI M)] [] mem
  refine ok_iconst F dX8_laysFewest_0 ?_
  refine ok_istore (lv' := [(5, pI 0), (0, pR 0), (1, pR R), (2, pI f), (3, pI n), (4, pI M)]) F dX8_laysFewest_1 (by decide) rfl ?_
  have hL_3 : ∀ (n_3 : Nat) (a : Int) (m : Mem), (0 ≤ a ∧ a ≤ M + 1 ∧ (∀ q, q ≠ 8 → q ≠ 9 → m q = mem q) ∧ ∀ x : Nat, (x : Int) < a → m 8 x = fewT (fun i => (mem 1 (3 + i)).toNat) (fun i => (mem R (f.toNat + i)).toNat) 0 x) → (M + 1 - a).toNat = n_3 → Ok shp X 6 3 [(0, pR 0), (1, pR R), (2, pI f), (3, pI n), (4, pI M), (5, pI a)] [] m := by
    intro n_3
    induction n_3 using Nat.strongRecOn with
    | _ n_3 ih_3 =>
      intro a m hI_3 hn_3
      obtain ⟨ha0, ha1, hF, hx⟩ := hI_3
      refine ok_iload F dX8_laysFewest_3 5 rfl ?_
      refine ok_iload F dX8_laysFewest_5 4 rfl ?_
      refine ok_icmp_gt F 34 dX8_laysFewest_7 (by decide) (by omega) (by omega) (fun c_1 => ?_) (fun c_1 => ?_)
      · refine ok_iconst F dX8_laysFewest_34 ?_
        refine ok_istore (lv' := [(5, pI 0), (0, pR 0), (1, pR R), (2, pI f), (3, pI n), (4, pI M)]) F dX8_laysFewest_35 (by decide) rfl ?_
        have hL_37 : ∀ (n_37 : Nat) (j : Int) (m3 : Mem), (0 ≤ j ∧ j ≤ n ∧ (∀ q, q ≠ 8 → q ≠ 9 → m3 q = mem q) ∧ ∀ k, k ≤ (j.toNat) → ∀ x : Nat, x ≤ M.toNat → m3 8 (2501 * k + x) = fewT (fun i => (mem 1 (3 + i)).toNat) (fun i => (mem R (f.toNat + i)).toNat) k x) → (n - j).toNat = n_37 → Ok shp X 6 37 [(0, pR 0), (1, pR R), (2, pI f), (3, pI n), (4, pI M), (5, pI j)] [] m3 := by
          intro n_37
          induction n_37 using Nat.strongRecOn with
          | _ n_37 ih_37 =>
            intro j m3 hI_37 hn_37
            obtain ⟨hj0, hj1, hF3, hT⟩ := hI_37
            refine ok_iload F dX8_laysFewest_37 5 rfl ?_
            refine ok_iload_n F dX8_laysFewest_39 3 rfl ?_
            refine ok_icmp_ge F 63 dX8_laysFewest_40 (by decide) (by omega) (by omega) (fun c_2 => ?_) (fun c_2 => ?_)
            · refine ok_vret F G dX8_laysFewest_63 ?_
              exact ⟨rfl, hF3, by rw [show n = j by omega]; exact hT⟩
            · have hv1 := hV j.toNat (by omega)
              have hc1 := hC j.toNat (by omega)
              rw [show 3 + j.toNat = (3 + j).toNat by omega, ← hF3 1 (by decide) (by decide)] at hv1
              rw [show f.toNat + j.toNat = (f + j).toNat by omega, ← hF3 R hR8 hR9] at hc1
              refine ok_aload_n F dX8_laysFewest_43 0 rfl ?_
              refine ok_iload F dX8_laysFewest_44 5 rfl ?_
              refine ok_aload_n F dX8_laysFewest_46 1 rfl ?_
              refine ok_iload_n F dX8_laysFewest_47 2 rfl ?_
              refine ok_iload F dX8_laysFewest_48 5 rfl ?_
              refine ok_iadd F dX8_laysFewest_50 ?_
              refine ok_iald (v := m3 R ((f + j).toNat)) F dX8_laysFewest_51 hR (by first | decide | assumption) (by omega) (by omega) rfl ?_
              refine ok_iload F dX8_laysFewest_52 4 rfl ?_
              refine ok_callv F [pI j, pI (m3 R ((f + j).toNat)), pI M] dX8_laysFewest_54 kM_X8_laysKind kI_X8_laysKind kV_X8_laysKind kL_X8_198 (ci := 8) rfl sh_0 rfl (by decide) (Nat.le_of_ble_eq_true rfl) rfl (m_X8_laysKind _ j (m3 R ((f + j).toNat)) M m3 (by omega) (by omega) (by omega) (by omega) (fun x hx => by rw [hT _ (Nat.le_refl _) x hx]; exact fewT_bd _ _ _ _)) ?_
              rintro _ m_4 ⟨rfl, r_5⟩
              obtain ⟨hk1, hk2, hk3⟩ := r_5
              refine ok_iinc (lv' := [(5, pI (j + 1)), (0, pR 0), (1, pR R), (2, pI f), (3, pI n), (4, pI M)]) F dX8_laysFewest_57 5 rfl (by decide) rfl ?_
              refine ok_goto F 37 dX8_laysFewest_60 (by decide) ?_
              refine ok_lvp [1, 2, 3, 4, 5, 0] (lv' := [(0, pR 0), (1, pR R), (2, pI f), (3, pI n), (4, pI M), (5, pI (j + 1))]) rfl ?_
              refine ih_37 _ ?_ (j + 1) m_4 ?_ rfl
              · omega
              · refine ⟨by omega, by omega, fun q h1 h2 => by rw [hk1 q h1 h2, hF3 q h1 h2], fun k hk x h => ?_⟩
                by_cases e : k = j.toNat + 1
                · subst e
                  rw [hk3 x h]
                  show _ = stepF (fewT _ _ j.toNat) _ _ x
                  rw [hF3 1 (by decide) (by decide), hF3 R hR8 hR9, show (3 + j).toNat = 3 + j.toNat by omega, show (f + j).toNat = f.toNat + j.toNat by omega]
                  exact stepF_congr (fun y hy => hT _ (Nat.le_refl _) y (by omega))
                · rw [hk2 _ (by omega)]; exact hT k (by omega) x h
        refine ok_lvp [1, 2, 3, 4, 5, 0] (lv' := [(0, pR 0), (1, pR R), (2, pI f), (3, pI n), (4, pI M), (5, pI 0)]) rfl ?_
        refine hL_37 _ 0 m ?_ rfl
        refine ⟨by omega, by omega, hF, fun k hk x h => ?_⟩
        obtain rfl : k = 0 := by omega
        rw [Nat.mul_zero, Nat.zero_add]
        exact hx x (by omega)
      · refine ok_aload_n F dX8_laysFewest_10 0 rfl ?_
        refine ok_getr F dX8_laysFewest_11 kF_X8_33 sh_0 rfl ?_
        refine ok_iload F dX8_laysFewest_14 5 rfl ?_
        refine ok_iload F dX8_laysFewest_16 5 rfl ?_
        refine ok_if_ne F 25 dX8_laysFewest_18 (by decide) (by omega) (fun c_6 => ?_) (fun c_6 => ?_)
        · refine ok_ldc (n := 1000000) F dX8_laysFewest_25 kK_X8_197 rfl ?_
          refine ok_iast F dX8_laysFewest_27 sh_8 (by first | decide | assumption) (by omega) (by omega) (fun m_7 e_8 => ?_)
          refine ok_iinc (lv' := [(5, pI (a + 1)), (0, pR 0), (1, pR R), (2, pI f), (3, pI n), (4, pI M)]) F dX8_laysFewest_28 5 rfl (by decide) rfl ?_
          refine ok_goto F 3 dX8_laysFewest_31 (by decide) ?_
          refine ok_lvp [1, 2, 3, 4, 5, 0] (lv' := [(0, pR 0), (1, pR R), (2, pI f), (3, pI n), (4, pI M), (5, pI (a + 1))]) rfl ?_
          refine ih_3 _ ?_ (a + 1) m_7 ?_ rfl
          · omega
          · refine ⟨by omega, by omega, fun q h1 h2 => ?_, fun x h => ?_⟩
            · rw [e_8, ← hF q h1 h2]; funext b; exact mset_nk h1
            · rw [e_8]
              by_cases e : x = a.toNat
              · subst e; rw [mset_eq]; unfold fewT; first | rw [if_pos (by omega)] | rw [if_neg (by omega)]
              · rw [mset_ne (fun q => e q.2)]; exact hx x (by omega)
        · refine ok_iconst F dX8_laysFewest_21 ?_
          refine ok_goto F 27 dX8_laysFewest_22 (by decide) ?_
          refine ok_iast F dX8_laysFewest_27 sh_8 (by first | decide | assumption) (by omega) (by omega) (fun m_9 e_10 => ?_)
          refine ok_iinc (lv' := [(5, pI (a + 1)), (0, pR 0), (1, pR R), (2, pI f), (3, pI n), (4, pI M)]) F dX8_laysFewest_28 5 rfl (by decide) rfl ?_
          refine ok_goto F 3 dX8_laysFewest_31 (by decide) ?_
          refine ok_lvp [1, 2, 3, 4, 5, 0] (lv' := [(0, pR 0), (1, pR R), (2, pI f), (3, pI n), (4, pI M), (5, pI (a + 1))]) rfl ?_
          refine ih_3 _ ?_ (a + 1) m_9 ?_ rfl
          · omega
          · refine ⟨by omega, by omega, fun q h1 h2 => ?_, fun x h => ?_⟩
            · rw [e_10, ← hF q h1 h2]; funext b; exact mset_nk h1
            · rw [e_10]
              by_cases e : x = a.toNat
              · subst e; rw [mset_eq]; unfold fewT; first | rw [if_pos (by omega)] | rw [if_neg (by omega)]
              · rw [mset_ne (fun q => e q.2)]; exact hx x (by omega)
  refine ok_lvp [1, 2, 3, 4, 5, 0] (lv' := [(0, pR 0), (1, pR R), (2, pI f), (3, pI n), (4, pI M), (5, pI 0)]) rfl ?_
  refine hL_3 _ 0 mem ?_ rfl
  exact ⟨by omega, by omega, fun _ _ _ => rfl, fun x h => by omega⟩
theorem dX8_hasChange_0 : decode cX8_hasChange 0 = .ok (.aload_n 0, 1) := by decide +kernel
theorem dX8_hasChange_1 : decode cX8_hasChange 1 = .ok (.getfield 33, 3) := by decide +kernel
theorem dX8_hasChange_4 : decode cX8_hasChange 4 = .ok (.iload_n 1, 1) := by decide +kernel
theorem dX8_hasChange_5 : decode cX8_hasChange 5 = .ok (.iload_n 2, 1) := by decide +kernel
theorem dX8_hasChange_6 : decode cX8_hasChange 6 = .ok (.invokestatic 194, 3) := by decide +kernel
theorem dX8_hasChange_9 : decode cX8_hasChange 9 = .ok (.iaload, 1) := by decide +kernel
theorem dX8_hasChange_10 : decode cX8_hasChange 10 = .ok (.ldc 197, 2) := by decide +kernel
theorem dX8_hasChange_12 : decode cX8_hasChange 12 = .ok (.if_icmp .ge 7, 3) := by decide +kernel
theorem dX8_hasChange_15 : decode cX8_hasChange 15 = .ok (.iconst 1, 1) := by decide +kernel
theorem dX8_hasChange_16 : decode cX8_hasChange 16 = .ok (.goto 4, 3) := by decide +kernel
theorem dX8_hasChange_19 : decode cX8_hasChange 19 = .ok (.iconst 0, 1) := by decide +kernel
theorem dX8_hasChange_20 : decode cX8_hasChange 20 = .ok (.ireturn, 1) := by decide +kernel
set_option maxHeartbeats 4000000 in
set_option maxRecDepth 100000 in
theorem m_X8_hasChange (l : Launch) (k : Int) (a : Int) (mem : Mem) (hk : 0 ≤ k ∧ k ≤ 8) (ha : 0 ≤ a ∧ a ≤ 2500) (hf : 0 ≤ mem 8 (2501 * k + a).toNat ∧ mem 8 (2501 * k + a).toNat ≤ 1000000) : Ret shp l yX8_hasChange cX8_hasChange 3 (some .boolean) 1 [pR 0, pI k, pI a] mem (fun rv mv => rv = some (pI (if mem 8 (2501 * k + a).toNat < 1000000 then 1 else 0)) ∧ mem = mv) := by
  refine ret_of (by decide +kernel) (Nat.le_of_ble_eq_true rfl) (fun X hX F G => ?_)
  show Ok shp X 3 0 [(0, pR 0), (1, pI k), (2, pI a)] [] mem
  refine ok_aload_n F dX8_hasChange_0 0 rfl ?_
  refine ok_getr F dX8_hasChange_1 kF_X8_33 sh_0 rfl ?_
  refine ok_iload_n F dX8_hasChange_4 1 rfl ?_
  refine ok_iload_n F dX8_hasChange_5 2 rfl ?_
  refine ok_calls F [pI k, pI a] dX8_hasChange_6 kM_X8_cell kS_X8_cell kL_X8_194 rfl (by decide) (Nat.le_of_ble_eq_true rfl) rfl (m_X8_cell _ k a mem) ?_
  rintro _ _ ⟨rfl, rfl⟩
  refine ok_iald (v := mem 8 ((2501 * k + a).toNat)) F dX8_hasChange_9 sh_8 (by first | decide | assumption) (by omega) (by omega) rfl ?_
  refine ok_ldc (n := 1000000) F dX8_hasChange_10 kK_X8_197 rfl ?_
  refine ok_icmp_ge F 19 dX8_hasChange_12 (by decide) (by omega) (by omega) (fun c_1 => ?_) (fun c_1 => ?_)
  · refine ok_iconst F dX8_hasChange_19 ?_
    refine ok_zret F G dX8_hasChange_20 (by first | rfl | exact zb_nar) ?_
    refine ⟨?_, rfl⟩
    first | rw [if_pos (by omega)] | rw [if_neg (by omega)]
  · refine ok_iconst F dX8_hasChange_15 ?_
    refine ok_goto F 20 dX8_hasChange_16 (by decide) ?_
    refine ok_zret F G dX8_hasChange_20 (by first | rfl | exact zb_nar) ?_
    refine ⟨?_, rfl⟩
    first | rw [if_pos (by omega)] | rw [if_neg (by omega)]
theorem dX8_laysTaken_0 : decode cX8_laysTaken 0 = .ok (.iload 4, 2) := by decide +kernel
theorem dX8_laysTaken_2 : decode cX8_laysTaken 2 = .ok (.istore 5, 2) := by decide +kernel
theorem dX8_laysTaken_4 : decode cX8_laysTaken 4 = .ok (.iconst 0, 1) := by decide +kernel
theorem dX8_laysTaken_5 : decode cX8_laysTaken 5 = .ok (.istore 6, 2) := by decide +kernel
theorem dX8_laysTaken_7 : decode cX8_laysTaken 7 = .ok (.iload 6, 2) := by decide +kernel
theorem dX8_laysTaken_9 : decode cX8_laysTaken 9 = .ok (.bipush 8, 2) := by decide +kernel
theorem dX8_laysTaken_11 : decode cX8_laysTaken 11 = .ok (.if_icmp .ge 17, 3) := by decide +kernel
theorem dX8_laysTaken_14 : decode cX8_laysTaken 14 = .ok (.aload_n 0, 1) := by decide +kernel
theorem dX8_laysTaken_15 : decode cX8_laysTaken 15 = .ok (.getfield 42, 3) := by decide +kernel
theorem dX8_laysTaken_18 : decode cX8_laysTaken 18 = .ok (.iload 6, 2) := by decide +kernel
theorem dX8_laysTaken_20 : decode cX8_laysTaken 20 = .ok (.iconst 0, 1) := by decide +kernel
theorem dX8_laysTaken_21 : decode cX8_laysTaken 21 = .ok (.iastore, 1) := by decide +kernel
theorem dX8_laysTaken_22 : decode cX8_laysTaken 22 = .ok (.iinc 6 1, 3) := by decide +kernel
theorem dX8_laysTaken_25 : decode cX8_laysTaken 25 = .ok (.goto (-18), 3) := by decide +kernel
theorem dX8_laysTaken_28 : decode cX8_laysTaken 28 = .ok (.iload_n 3, 1) := by decide +kernel
theorem dX8_laysTaken_29 : decode cX8_laysTaken 29 = .ok (.iconst 1, 1) := by decide +kernel
theorem dX8_laysTaken_30 : decode cX8_laysTaken 30 = .ok (.isub, 1) := by decide +kernel
theorem dX8_laysTaken_31 : decode cX8_laysTaken 31 = .ok (.istore 6, 2) := by decide +kernel
theorem dX8_laysTaken_33 : decode cX8_laysTaken 33 = .ok (.iload 6, 2) := by decide +kernel
theorem dX8_laysTaken_35 : decode cX8_laysTaken 35 = .ok (.ifCond .lt 100, 3) := by decide +kernel
theorem dX8_laysTaken_38 : decode cX8_laysTaken 38 = .ok (.aload_n 1, 1) := by decide +kernel
theorem dX8_laysTaken_39 : decode cX8_laysTaken 39 = .ok (.iload_n 2, 1) := by decide +kernel
theorem dX8_laysTaken_40 : decode cX8_laysTaken 40 = .ok (.iload 6, 2) := by decide +kernel
theorem dX8_laysTaken_42 : decode cX8_laysTaken 42 = .ok (.iadd, 1) := by decide +kernel
theorem dX8_laysTaken_43 : decode cX8_laysTaken 43 = .ok (.iaload, 1) := by decide +kernel
theorem dX8_laysTaken_44 : decode cX8_laysTaken 44 = .ok (.iload 5, 2) := by decide +kernel
theorem dX8_laysTaken_46 : decode cX8_laysTaken 46 = .ok (.aload_n 0, 1) := by decide +kernel
theorem dX8_laysTaken_47 : decode cX8_laysTaken 47 = .ok (.iload 6, 2) := by decide +kernel
theorem dX8_laysTaken_49 : decode cX8_laysTaken 49 = .ok (.invokevirtual 191, 3) := by decide +kernel
theorem dX8_laysTaken_52 : decode cX8_laysTaken 52 = .ok (.idiv, 1) := by decide +kernel
theorem dX8_laysTaken_53 : decode cX8_laysTaken 53 = .ok (.invokestatic 128, 3) := by decide +kernel
theorem dX8_laysTaken_56 : decode cX8_laysTaken 56 = .ok (.istore 7, 2) := by decide +kernel
theorem dX8_laysTaken_58 : decode cX8_laysTaken 58 = .ok (.iload 7, 2) := by decide +kernel
theorem dX8_laysTaken_60 : decode cX8_laysTaken 60 = .ok (.aload_n 0, 1) := by decide +kernel
theorem dX8_laysTaken_61 : decode cX8_laysTaken 61 = .ok (.getfield 33, 3) := by decide +kernel
theorem dX8_laysTaken_64 : decode cX8_laysTaken 64 = .ok (.iload 6, 2) := by decide +kernel
theorem dX8_laysTaken_66 : decode cX8_laysTaken 66 = .ok (.iload 5, 2) := by decide +kernel
theorem dX8_laysTaken_68 : decode cX8_laysTaken 68 = .ok (.iload 7, 2) := by decide +kernel
theorem dX8_laysTaken_70 : decode cX8_laysTaken 70 = .ok (.aload_n 0, 1) := by decide +kernel
theorem dX8_laysTaken_71 : decode cX8_laysTaken 71 = .ok (.iload 6, 2) := by decide +kernel
theorem dX8_laysTaken_73 : decode cX8_laysTaken 73 = .ok (.invokevirtual 191, 3) := by decide +kernel
theorem dX8_laysTaken_76 : decode cX8_laysTaken 76 = .ok (.imul, 1) := by decide +kernel
theorem dX8_laysTaken_77 : decode cX8_laysTaken 77 = .ok (.isub, 1) := by decide +kernel
theorem dX8_laysTaken_78 : decode cX8_laysTaken 78 = .ok (.invokestatic 194, 3) := by decide +kernel
theorem dX8_laysTaken_81 : decode cX8_laysTaken 81 = .ok (.iaload, 1) := by decide +kernel
theorem dX8_laysTaken_82 : decode cX8_laysTaken 82 = .ok (.iadd, 1) := by decide +kernel
theorem dX8_laysTaken_83 : decode cX8_laysTaken 83 = .ok (.aload_n 0, 1) := by decide +kernel
theorem dX8_laysTaken_84 : decode cX8_laysTaken 84 = .ok (.getfield 33, 3) := by decide +kernel
theorem dX8_laysTaken_87 : decode cX8_laysTaken 87 = .ok (.iload 6, 2) := by decide +kernel
theorem dX8_laysTaken_89 : decode cX8_laysTaken 89 = .ok (.iconst 1, 1) := by decide +kernel
theorem dX8_laysTaken_90 : decode cX8_laysTaken 90 = .ok (.iadd, 1) := by decide +kernel
theorem dX8_laysTaken_91 : decode cX8_laysTaken 91 = .ok (.iload 5, 2) := by decide +kernel
theorem dX8_laysTaken_93 : decode cX8_laysTaken 93 = .ok (.invokestatic 194, 3) := by decide +kernel
theorem dX8_laysTaken_96 : decode cX8_laysTaken 96 = .ok (.iaload, 1) := by decide +kernel
theorem dX8_laysTaken_97 : decode cX8_laysTaken 97 = .ok (.if_icmp .eq 9, 3) := by decide +kernel
theorem dX8_laysTaken_100 : decode cX8_laysTaken 100 = .ok (.iinc 7 (-1), 3) := by decide +kernel
theorem dX8_laysTaken_103 : decode cX8_laysTaken 103 = .ok (.goto (-45), 3) := by decide +kernel
theorem dX8_laysTaken_106 : decode cX8_laysTaken 106 = .ok (.aload_n 0, 1) := by decide +kernel
theorem dX8_laysTaken_107 : decode cX8_laysTaken 107 = .ok (.getfield 42, 3) := by decide +kernel
theorem dX8_laysTaken_110 : decode cX8_laysTaken 110 = .ok (.iload 6, 2) := by decide +kernel
theorem dX8_laysTaken_112 : decode cX8_laysTaken 112 = .ok (.iload 7, 2) := by decide +kernel
theorem dX8_laysTaken_114 : decode cX8_laysTaken 114 = .ok (.iastore, 1) := by decide +kernel
theorem dX8_laysTaken_115 : decode cX8_laysTaken 115 = .ok (.iload 5, 2) := by decide +kernel
theorem dX8_laysTaken_117 : decode cX8_laysTaken 117 = .ok (.iload 7, 2) := by decide +kernel
theorem dX8_laysTaken_119 : decode cX8_laysTaken 119 = .ok (.aload_n 0, 1) := by decide +kernel
theorem dX8_laysTaken_120 : decode cX8_laysTaken 120 = .ok (.iload 6, 2) := by decide +kernel
theorem dX8_laysTaken_122 : decode cX8_laysTaken 122 = .ok (.invokevirtual 191, 3) := by decide +kernel
theorem dX8_laysTaken_125 : decode cX8_laysTaken 125 = .ok (.imul, 1) := by decide +kernel
theorem dX8_laysTaken_126 : decode cX8_laysTaken 126 = .ok (.isub, 1) := by decide +kernel
theorem dX8_laysTaken_127 : decode cX8_laysTaken 127 = .ok (.istore 5, 2) := by decide +kernel
theorem dX8_laysTaken_129 : decode cX8_laysTaken 129 = .ok (.iinc 6 (-1), 3) := by decide +kernel
theorem dX8_laysTaken_132 : decode cX8_laysTaken 132 = .ok (.goto (-99), 3) := by decide +kernel
theorem dX8_laysTaken_135 : decode cX8_laysTaken 135 = .ok (.return_, 1) := by decide +kernel
set_option maxHeartbeats 4000000 in
set_option maxRecDepth 100000 in
theorem m_X8_laysTaken (l : Launch) (R : Nat) (f : Int) (n : Int) (M : Int) (mem : Mem) (nR : Nat) (hR : shp[R]? = some (.inr (.inl (0, nR)))) (hnR : nR < 2 ^ 31) (hR8 : R ≠ 8) (hR9 : R ≠ 9) (hfn : 0 ≤ f ∧ f + n ≤ nR) (hn : 0 ≤ n ∧ n ≤ 8) (hM : 0 ≤ M ∧ M ≤ 2500) (hV : ∀ i : Nat, (i : Int) < n → 1 ≤ mem 1 (3 + i) ∧ mem 1 (3 + i) ≤ 500) (hC : ∀ i : Nat, (i : Int) < n → 0 ≤ mem R (f.toNat + i) ∧ mem R (f.toNat + i) ≤ 200) (hR11 : R ≠ 11) (hT : ∀ k, k ≤ (n.toNat) → ∀ x : Nat, x ≤ M.toNat → mem 8 (2501 * k + x) = fewT (fun i => (mem 1 (3 + i)).toNat) (fun i => (mem R (f.toNat + i)).toNat) k x) (hlt : fewT (fun i => (mem 1 (3 + i)).toNat) (fun i => (mem R (f.toNat + i)).toNat) n.toNat M.toNat < 1000000) : Ret shp l yX8_laysTaken cX8_laysTaken 8 none 2 [pR 0, pR R, pI f, pI n, pI M] mem (fun rv mv => rv = none ∧ (∀ a, a ≠ 11 → mv a = mem a) ∧ ∀ j : Nat, j < 8 → mv 11 j = takR (fun i => (mem 1 (3 + i)).toNat) (fun i => (mem R (f.toNat + i)).toNat) n.toNat M.toNat j) := by
  refine ret_of (by decide +kernel) (Nat.le_of_ble_eq_true rfl) (fun X hX F G => ?_)
  show Ok shp X 8 0 [(0, pR 0), (1, pR R), (2, pI f), (3, pI n), (4, pI M)] [] mem
  refine ok_iload F dX8_laysTaken_0 4 rfl ?_
  refine ok_istore (lv' := [(5, pI M), (0, pR 0), (1, pR R), (2, pI f), (3, pI n), (4, pI M)]) F dX8_laysTaken_2 (by decide) rfl ?_
  refine ok_iconst F dX8_laysTaken_4 ?_
  refine ok_istore (lv' := [(6, pI 0), (5, pI M), (0, pR 0), (1, pR R), (2, pI f), (3, pI n), (4, pI M)]) F dX8_laysTaken_5 (by decide) rfl ?_
  have hL_7 : ∀ (n_7 : Nat) (i : Int) (m : Mem), (0 ≤ i ∧ i ≤ 8 ∧ (∀ q, q ≠ 11 → m q = mem q) ∧ ∀ x : Nat, (x : Int) < i → m 11 x = 0) → (8 - i).toNat = n_7 → Ok shp X 8 7 [(0, pR 0), (1, pR R), (2, pI f), (3, pI n), (4, pI M), (5, pI M), (6, pI i)] [] m := by
    intro n_7
    induction n_7 using Nat.strongRecOn with
    | _ n_7 ih_7 =>
      intro i m hI_7 hn_7
      refine ok_iload F dX8_laysTaken_7 6 rfl ?_
      refine ok_bipush F dX8_laysTaken_9 rfl ?_
      refine ok_icmp_ge F 28 dX8_laysTaken_11 (by decide) (by omega) (by omega) (fun c_1 => ?_) (fun c_1 => ?_)
      · refine ok_iload_n F dX8_laysTaken_28 3 rfl ?_
        refine ok_iconst F dX8_laysTaken_29 ?_
        refine ok_isub F dX8_laysTaken_30 ?_
        refine ok_istore (lv' := [(6, pI (n - 1)), (0, pR 0), (1, pR R), (2, pI f), (3, pI n), (4, pI M), (5, pI M)]) F dX8_laysTaken_31 (by decide) rfl ?_
        have hL_33 : ∀ (n_33 : Nat) (L : Int) (k : Int) (m2 : Mem), (-1 ≤ k ∧ k < n ∧ 0 ≤ L ∧ L ≤ M ∧ (∀ q, q ≠ 11 → m2 q = mem q) ∧ L.toNat = takL (fun i => (mem 1 (3 + i)).toNat) (fun i => (mem R (f.toNat + i)).toNat) n.toNat M.toNat (k + 1).toNat ∧ fewT (fun i => (mem 1 (3 + i)).toNat) (fun i => (mem R (f.toNat + i)).toNat) (k + 1).toNat L.toNat < 1000000 ∧ (∀ j : Nat, k < j → j < 8 → m2 11 j = takR (fun i => (mem 1 (3 + i)).toNat) (fun i => (mem R (f.toNat + i)).toNat) n.toNat M.toNat j) ∧ ∀ j : Nat, (j : Int) ≤ k → m2 11 j = 0) → (k + 1).toNat = n_33 → Ok shp X 8 33 [(0, pR 0), (1, pR R), (2, pI f), (3, pI n), (4, pI M), (5, pI L), (6, pI k)] [] m2 := by
          intro n_33
          induction n_33 using Nat.strongRecOn with
          | _ n_33 ih_33 =>
            intro L k m2 hI_33 hn_33
            obtain ⟨hk1, hk2, hL0, hLM, hF, hLL, hfl, hS, hS0⟩ := hI_33
            refine ok_iload F dX8_laysTaken_33 6 rfl ?_
            refine ok_if_lt F 135 dX8_laysTaken_35 (by decide) (by omega) (fun c_2 => ?_) (fun c_2 => ?_)
            · refine ok_vret F G dX8_laysTaken_135 ?_
              refine ⟨rfl, hF, fun j hj => hS j (by omega) hj⟩
            · have hV1 := hV k.toNat (by omega)
              have hC1 := hC k.toNat (by omega)
              obtain ⟨vk, hvkd⟩ : ∃ x, x = (mem 1 (3 + k.toNat)).toNat := ⟨_, rfl⟩
              have hvk : 0 < vk := by omega
              have hvk2 : vk = (fun i => (mem 1 (3 + i)).toNat) k.toNat := hvkd
              have hv2 : m2 1 (3 + k).toNat = (vk : Int) := by rw [hF 1 (by decide), show (3 + k).toNat = 3 + k.toNat by omega]; omega
              have hr2 : m2 R (f + k).toNat = ((mem R (f.toNat + k.toNat)).toNat : Int) := by rw [hF R hR11, show (f + k).toNat = f.toNat + k.toNat by omega]; omega
              obtain ⟨qd, hqd⟩ : ∃ x, x = L.toNat / vk := ⟨_, rfl⟩
              have hdv : L.tdiv (m2 1 (3 + k).toNat) = (qd : Int) := by rw [hv2, Int.tdiv_eq_ediv_of_nonneg hL0, hqd, Int.natCast_ediv, show ((L.toNat : Nat) : Int) = L by omega]
              have hdl : qd ≤ L.toNat := by rw [hqd]; exact Nat.div_le_self _ _
              have hdm : qd * vk ≤ L.toNat := by rw [hqd]; exact Nat.div_mul_le_self _ _
              have hdw : ∀ w, w * vk ≤ L.toNat → w ≤ qd := fun w hw => by rw [hqd]; exact (Nat.le_div_iff_mul_le hvk).mpr hw
              rw [show (k + 1).toNat = k.toNat + 1 by omega] at hfl
              refine ok_aload_n F dX8_laysTaken_38 1 rfl ?_
              refine ok_iload_n F dX8_laysTaken_39 2 rfl ?_
              refine ok_iload F dX8_laysTaken_40 6 rfl ?_
              refine ok_iadd F dX8_laysTaken_42 ?_
              refine ok_iald (v := m2 R ((f + k).toNat)) F dX8_laysTaken_43 hR (by first | decide | assumption) (by omega) (by omega) rfl ?_
              refine ok_iload F dX8_laysTaken_44 5 rfl ?_
              refine ok_aload_n F dX8_laysTaken_46 0 rfl ?_
              refine ok_iload F dX8_laysTaken_47 6 rfl ?_
              refine ok_callv F [pI k] dX8_laysTaken_49 kM_X8_value kI_X8_value kV_X8_value kL_X8_191 (ci := 8) rfl sh_0 rfl (by decide) (Nat.le_of_ble_eq_true rfl) rfl (m_X8_value _ k m2 (by omega)) ?_
              rintro _ _ ⟨rfl, rfl⟩
              refine ok_idiv F dX8_laysTaken_52 (by omega) (by omega) (by omega) ?_
              refine ok_mmin F dX8_laysTaken_53 kL_X8_128 kS_J9_min_7cf53 kM_J9_min_7cf53.2.1 kM_J9_min_7cf53.2.2.1 (by omega) (by omega) (by decide) (Nat.le_of_ble_eq_true rfl) ?_
              refine ok_istore (lv' := [(7, pI (min (m2 R ((f + k).toNat)) (L.tdiv (m2 1 (3 + k).toNat)))), (0, pR 0), (1, pR R), (2, pI f), (3, pI n), (4, pI M), (5, pI L), (6, pI k)]) F dX8_laysTaken_56 (by decide) rfl ?_
              have hL_58 : ∀ (n_58 : Nat) (c : Int), (∃ z : Nat, c = z ∧ z ≤ (mem R (f.toNat + k.toNat)).toNat ∧ z * vk ≤ L.toNat ∧ (∃ y, y ≤ z ∧ y * vk ≤ L.toNat ∧ fewT (fun i => (mem 1 (3 + i)).toNat) (fun i => (mem R (f.toNat + i)).toNat) k.toNat (L.toNat - y * vk) + y = fewT (fun i => (mem 1 (3 + i)).toNat) (fun i => (mem R (f.toNat + i)).toNat) (k.toNat + 1) L.toNat) ∧ ∀ w, z < w → w ≤ (mem R (f.toNat + k.toNat)).toNat → ¬ (w * vk ≤ L.toNat ∧ fewT (fun i => (mem 1 (3 + i)).toNat) (fun i => (mem R (f.toNat + i)).toNat) k.toNat (L.toNat - w * vk) + w = fewT (fun i => (mem 1 (3 + i)).toNat) (fun i => (mem R (f.toNat + i)).toNat) (k.toNat + 1) L.toNat)) → c.toNat = n_58 → Ok shp X 8 58 [(0, pR 0), (1, pR R), (2, pI f), (3, pI n), (4, pI M), (5, pI L), (6, pI k), (7, pI c)] [] m2 := by
                intro n_58
                induction n_58 using Nat.strongRecOn with
                | _ n_58 ih_58 =>
                  intro c hI_58 hn_58
                  obtain ⟨z, hz, hzc, hzv, ⟨y, y1, y2, y3⟩, hzw⟩ := hI_58
                  have hcv : c * m2 1 (3 + k).toNat = ((z * vk : Nat) : Int) := by rw [hz, hv2, Int.natCast_mul]
                  have hT1 : m2 8 (2501 * k + (L - c * m2 1 (3 + k).toNat)).toNat = fewT (fun i => (mem 1 (3 + i)).toNat) (fun i => (mem R (f.toNat + i)).toNat) k.toNat (L.toNat - z * vk) := by rw [hF 8 (by decide), show (2501 * k + (L - c * m2 1 (3 + k).toNat)).toNat = 2501 * k.toNat + (L.toNat - z * vk) by omega]; exact hT _ (by omega) _ (by omega)
                  have hT2 : m2 8 (2501 * (k + 1) + L).toNat = fewT (fun i => (mem 1 (3 + i)).toNat) (fun i => (mem R (f.toNat + i)).toNat) (k.toNat + 1) L.toNat := by rw [hF 8 (by decide), show (2501 * (k + 1) + L).toNat = 2501 * (k.toNat + 1) + L.toNat by omega]; exact hT _ (by omega) _ (by omega)
                  have hb1 := fewT_bd (fun i => (mem 1 (3 + i)).toNat) (fun i => (mem R (f.toNat + i)).toNat) k.toNat (L.toNat - z * vk)
                  have hb2 := fewT_bd (fun i => (mem 1 (3 + i)).toNat) (fun i => (mem R (f.toNat + i)).toNat) (k.toNat + 1) L.toNat
                  refine ok_iload F dX8_laysTaken_58 7 rfl ?_
                  refine ok_aload_n F dX8_laysTaken_60 0 rfl ?_
                  refine ok_getr F dX8_laysTaken_61 kF_X8_33 sh_0 rfl ?_
                  refine ok_iload F dX8_laysTaken_64 6 rfl ?_
                  refine ok_iload F dX8_laysTaken_66 5 rfl ?_
                  refine ok_iload F dX8_laysTaken_68 7 rfl ?_
                  refine ok_aload_n F dX8_laysTaken_70 0 rfl ?_
                  refine ok_iload F dX8_laysTaken_71 6 rfl ?_
                  refine ok_callv F [pI k] dX8_laysTaken_73 kM_X8_value kI_X8_value kV_X8_value kL_X8_191 (ci := 8) rfl sh_0 rfl (by decide) (Nat.le_of_ble_eq_true rfl) rfl (m_X8_value _ k m2 (by omega)) ?_
                  rintro _ _ ⟨rfl, rfl⟩
                  refine ok_imul F dX8_laysTaken_76 ?_
                  refine ok_isub F dX8_laysTaken_77 ?_
                  refine ok_calls F [pI k, pI (L - (c * (m2 1 (3 + k).toNat)))] dX8_laysTaken_78 kM_X8_cell kS_X8_cell kL_X8_194 rfl (by decide) (Nat.le_of_ble_eq_true rfl) rfl (m_X8_cell _ k (L - (c * (m2 1 (3 + k).toNat))) m2) ?_
                  rintro _ _ ⟨rfl, rfl⟩
                  refine ok_iald (v := m2 8 ((2501 * k + (L - (c * (m2 1 (3 + k).toNat)))).toNat)) F dX8_laysTaken_81 sh_8 (by first | decide | assumption) (by omega) (by omega) rfl ?_
                  refine ok_iadd F dX8_laysTaken_82 ?_
                  refine ok_aload_n F dX8_laysTaken_83 0 rfl ?_
                  refine ok_getr F dX8_laysTaken_84 kF_X8_33 sh_0 rfl ?_
                  refine ok_iload F dX8_laysTaken_87 6 rfl ?_
                  refine ok_iconst F dX8_laysTaken_89 ?_
                  refine ok_iadd F dX8_laysTaken_90 ?_
                  refine ok_iload F dX8_laysTaken_91 5 rfl ?_
                  refine ok_calls F [pI (k + 1), pI L] dX8_laysTaken_93 kM_X8_cell kS_X8_cell kL_X8_194 rfl (by decide) (Nat.le_of_ble_eq_true rfl) rfl (m_X8_cell _ (k + 1) L m2) ?_
                  rintro _ _ ⟨rfl, rfl⟩
                  refine ok_iald (v := m2 8 ((2501 * (k + 1) + L).toNat)) F dX8_laysTaken_96 sh_8 (by first | decide | assumption) (by omega) (by omega) rfl ?_
                  refine ok_icmp_eq F 106 dX8_laysTaken_97 (by decide) (by omega) (by omega) (fun c_3 => ?_) (fun c_3 => ?_)
                  · refine ok_aload_n F dX8_laysTaken_106 0 rfl ?_
                    refine ok_getr F dX8_laysTaken_107 kF_X8_42 sh_0 rfl ?_
                    refine ok_iload F dX8_laysTaken_110 6 rfl ?_
                    refine ok_iload F dX8_laysTaken_112 7 rfl ?_
                    refine ok_iast F dX8_laysTaken_114 sh_11 (by first | decide | assumption) (by omega) (by omega) (fun m_4 e_5 => ?_)
                    refine ok_iload F dX8_laysTaken_115 5 rfl ?_
                    refine ok_iload F dX8_laysTaken_117 7 rfl ?_
                    refine ok_aload_n F dX8_laysTaken_119 0 rfl ?_
                    refine ok_iload F dX8_laysTaken_120 6 rfl ?_
                    refine ok_callv F [pI k] dX8_laysTaken_122 kM_X8_value kI_X8_value kV_X8_value kL_X8_191 (ci := 8) rfl sh_0 rfl (by decide) (Nat.le_of_ble_eq_true rfl) rfl (m_X8_value _ k m_4 (by omega)) ?_
                    rintro _ _ ⟨rfl, rfl⟩
                    refine ok_imul F dX8_laysTaken_125 ?_
                    refine ok_isub F dX8_laysTaken_126 ?_
                    refine ok_istore (lv' := [(5, pI (L - (c * (m_4 1 (3 + k).toNat)))), (0, pR 0), (1, pR R), (2, pI f), (3, pI n), (4, pI M), (6, pI k), (7, pI c)]) F dX8_laysTaken_127 (by decide) rfl ?_
                    refine ok_iinc (lv' := [(6, pI (k + (-1))), (5, pI (L - (c * (m_4 1 (3 + k).toNat)))), (0, pR 0), (1, pR R), (2, pI f), (3, pI n), (4, pI M), (7, pI c)]) F dX8_laysTaken_129 6 rfl (by decide) rfl ?_
                    refine ok_goto F 33 dX8_laysTaken_132 (by decide) ?_
                    refine ok_lvp [2, 3, 4, 5, 6, 1, 0] (lv' := [(0, pR 0), (1, pR R), (2, pI f), (3, pI n), (4, pI M), (5, pI (L - (c * (m_4 1 (3 + k).toNat)))), (6, pI (k + (-1)))]) rfl ?_
                    refine ih_33 _ ?_ (L - (c * (m_4 1 (3 + k).toNat))) (k + (-1)) m_4 ?_ rfl
                    · omega
                    · have heq : fewT (fun i => (mem 1 (3 + i)).toNat) (fun i => (mem R (f.toNat + i)).toNat) k.toNat (L.toNat - z * vk) + z = fewT (fun i => (mem 1 (3 + i)).toNat) (fun i => (mem R (f.toNat + i)).toNat) (k.toNat + 1) L.toNat := by omega
                      have ez : takZ (fun i => (mem 1 (3 + i)).toNat) (fun i => (mem R (f.toNat + i)).toNat) k.toNat L.toNat = z := by subst hvkd; exact takZ_of hzc hzv heq hzw
                      have hv3 : m_4 1 (3 + k).toNat = (vk : Int) := by rw [e_5, mset_nk (by decide)]; exact hv2
                      have hcv3 : c * m_4 1 (3 + k).toNat = ((z * vk : Nat) : Int) := by rw [hz, hv3, Int.natCast_mul]
                      refine ⟨by omega, by omega, by omega, by omega, fun q h1 => by rw [e_5, ← hF q h1]; funext b; exact mset_nk h1, ?_, ?_, fun j h1 h2 => ?_, fun j h1 => ?_⟩
                      · rw [show (k + -1 + 1).toNat = k.toNat by omega, takL_step _ _ _ _ _ (by omega), show k.toNat + 1 = (k + 1).toNat by omega, ← hLL, ez, ← hvkd]; omega
                      · rw [show (k + -1 + 1).toNat = k.toNat by omega, show (L - c * m_4 1 (3 + k).toNat).toNat = L.toNat - z * vk by omega]; omega
                      · rw [e_5]
                        by_cases e : j = k.toNat
                        · subst e; rw [mset_eq, takR_eq _ _ _ _ _ (by omega), show k.toNat + 1 = (k + 1).toNat by omega, ← hLL, ez]; omega
                        · rw [mset_ne (fun q => e q.2)]; exact hS j (by omega) h2
                      · rw [e_5, mset_ne (by omega)]; exact hS0 j (by omega)
                  · refine ok_iinc (lv' := [(7, pI (c + (-1))), (0, pR 0), (1, pR R), (2, pI f), (3, pI n), (4, pI M), (5, pI L), (6, pI k)]) F dX8_laysTaken_100 7 rfl (by decide) rfl ?_
                    refine ok_goto F 58 dX8_laysTaken_103 (by decide) ?_
                    refine ok_lvp [1, 2, 3, 4, 5, 6, 7, 0] (lv' := [(0, pR 0), (1, pR R), (2, pI f), (3, pI n), (4, pI M), (5, pI L), (6, pI k), (7, pI (c + (-1)))]) rfl ?_
                    refine ih_58 _ ?_ (c + (-1)) ?_ rfl
                    · (have : y ≠ z := fun e => by subst e; omega)
                      omega
                    · have hyz : y ≠ z := fun e => by subst e; omega
                      have hm1 : (z - 1) * vk ≤ z * vk := Nat.mul_le_mul_right vk (Nat.sub_le z 1)
                      refine ⟨z - 1, by omega, by omega, by omega, ⟨y, by omega, y2, y3⟩, fun w w1 w2 => ?_⟩
                      by_cases e : w = z
                      · subst e; rintro ⟨-, q⟩; omega
                      · exact hzw w (by omega) w2
              refine ok_lvp [1, 2, 3, 4, 5, 6, 7, 0] (lv' := [(0, pR 0), (1, pR R), (2, pI f), (3, pI n), (4, pI M), (5, pI L), (6, pI k), (7, pI (min (m2 R ((f + k).toNat)) (L.tdiv (m2 1 (3 + k).toNat))))]) rfl ?_
              refine hL_58 _ (min (m2 R ((f + k).toNat)) (L.tdiv (m2 1 (3 + k).toNat))) ?_ rfl
              obtain ⟨y, y1, y2, y3⟩ := fewT_at hfl
              rw [← hvkd] at y2 y3
              refine ⟨min (mem R (f.toNat + k.toNat)).toNat qd, by rw [hdv]; omega, Nat.min_le_left _ _, Nat.le_trans (Nat.mul_le_mul_right vk (Nat.min_le_right _ _)) hdm, ⟨y, Nat.le_min.mpr ⟨y1, hdw y y2⟩, y2, y3⟩, fun w w1 w2 w3 => ?_⟩
              have := hdw w w3.1
              omega
        refine ok_lvp [1, 2, 3, 4, 5, 6, 0] (lv' := [(0, pR 0), (1, pR R), (2, pI f), (3, pI n), (4, pI M), (5, pI M), (6, pI (n - 1))]) rfl ?_
        refine hL_33 _ M (n - 1) m ?_ rfl
        refine ⟨by omega, by omega, by omega, by omega, hI_7.2.2.1, ?_, ?_, fun j h1 h2 => ?_, fun j h1 => hI_7.2.2.2 j (by omega)⟩
        · rw [show (n - 1 + 1).toNat = n.toNat by omega, takL_top]
        · rw [show (n - 1 + 1).toNat = n.toNat by omega]; exact hlt
        · rw [takR_ge _ _ _ _ _ (by omega)]; exact hI_7.2.2.2 j (by omega)
      · refine ok_aload_n F dX8_laysTaken_14 0 rfl ?_
        refine ok_getr F dX8_laysTaken_15 kF_X8_42 sh_0 rfl ?_
        refine ok_iload F dX8_laysTaken_18 6 rfl ?_
        refine ok_iconst F dX8_laysTaken_20 ?_
        refine ok_iast F dX8_laysTaken_21 sh_11 (by first | decide | assumption) (by omega) (by omega) (fun m_6 e_7 => ?_)
        refine ok_iinc (lv' := [(6, pI (i + 1)), (0, pR 0), (1, pR R), (2, pI f), (3, pI n), (4, pI M), (5, pI M)]) F dX8_laysTaken_22 6 rfl (by decide) rfl ?_
        refine ok_goto F 7 dX8_laysTaken_25 (by decide) ?_
        refine ok_lvp [1, 2, 3, 4, 5, 6, 0] (lv' := [(0, pR 0), (1, pR R), (2, pI f), (3, pI n), (4, pI M), (5, pI M), (6, pI (i + 1))]) rfl ?_
        refine ih_7 _ ?_ (i + 1) m_6 ?_ rfl
        · omega
        · refine ⟨by omega, by omega, fun q h1 => ?_, fun x h => ?_⟩
          · rw [e_7, ← hI_7.2.2.1 q h1]; funext b; exact mset_nk h1
          · rw [e_7]
            by_cases e : x = i.toNat
            · subst e; exact mset_eq _ _ _ _
            · rw [mset_ne (fun q => e q.2)]; exact hI_7.2.2.2 x (by omega)
  refine ok_lvp [2, 3, 4, 5, 6, 1, 0] (lv' := [(0, pR 0), (1, pR R), (2, pI f), (3, pI n), (4, pI M), (5, pI M), (6, pI 0)]) rfl ?_
  refine hL_7 _ 0 mem ?_ rfl
  exact ⟨by omega, by omega, fun _ _ => rfl, fun x h => by omega⟩
theorem dX8_changes_0 : decode cX8_changes 0 = .ok (.aload_n 0, 1) := by decide +kernel
theorem dX8_changes_1 : decode cX8_changes 1 = .ok (.aload_n 1, 1) := by decide +kernel
theorem dX8_changes_2 : decode cX8_changes 2 = .ok (.iload_n 2, 1) := by decide +kernel
theorem dX8_changes_3 : decode cX8_changes 3 = .ok (.iload_n 3, 1) := by decide +kernel
theorem dX8_changes_4 : decode cX8_changes 4 = .ok (.iload 4, 2) := by decide +kernel
theorem dX8_changes_6 : decode cX8_changes 6 = .ok (.invokevirtual 202, 3) := by decide +kernel
theorem dX8_changes_9 : decode cX8_changes 9 = .ok (.aload_n 0, 1) := by decide +kernel
theorem dX8_changes_10 : decode cX8_changes 10 = .ok (.iload_n 3, 1) := by decide +kernel
theorem dX8_changes_11 : decode cX8_changes 11 = .ok (.iload 4, 2) := by decide +kernel
theorem dX8_changes_13 : decode cX8_changes 13 = .ok (.invokevirtual 206, 3) := by decide +kernel
theorem dX8_changes_16 : decode cX8_changes 16 = .ok (.ifCond .ne 5, 3) := by decide +kernel
theorem dX8_changes_19 : decode cX8_changes 19 = .ok (.iconst (-1), 1) := by decide +kernel
theorem dX8_changes_20 : decode cX8_changes 20 = .ok (.ireturn, 1) := by decide +kernel
theorem dX8_changes_21 : decode cX8_changes 21 = .ok (.aload_n 0, 1) := by decide +kernel
theorem dX8_changes_22 : decode cX8_changes 22 = .ok (.aload_n 1, 1) := by decide +kernel
theorem dX8_changes_23 : decode cX8_changes 23 = .ok (.iload_n 2, 1) := by decide +kernel
theorem dX8_changes_24 : decode cX8_changes 24 = .ok (.iload_n 3, 1) := by decide +kernel
theorem dX8_changes_25 : decode cX8_changes 25 = .ok (.iload 4, 2) := by decide +kernel
theorem dX8_changes_27 : decode cX8_changes 27 = .ok (.invokevirtual 210, 3) := by decide +kernel
theorem dX8_changes_30 : decode cX8_changes 30 = .ok (.aload_n 0, 1) := by decide +kernel
theorem dX8_changes_31 : decode cX8_changes 31 = .ok (.getfield 33, 3) := by decide +kernel
theorem dX8_changes_34 : decode cX8_changes 34 = .ok (.iload_n 3, 1) := by decide +kernel
theorem dX8_changes_35 : decode cX8_changes 35 = .ok (.iload 4, 2) := by decide +kernel
theorem dX8_changes_37 : decode cX8_changes 37 = .ok (.invokestatic 194, 3) := by decide +kernel
theorem dX8_changes_40 : decode cX8_changes 40 = .ok (.iaload, 1) := by decide +kernel
theorem dX8_changes_41 : decode cX8_changes 41 = .ok (.ireturn, 1) := by decide +kernel
set_option maxHeartbeats 4000000 in
set_option maxRecDepth 100000 in
theorem m_X8_changes (l : Launch) (R : Nat) (f : Int) (n : Int) (M : Int) (mem : Mem) (nR : Nat) (hR : shp[R]? = some (.inr (.inl (0, nR)))) (hnR : nR < 2 ^ 31) (hR8 : R ≠ 8) (hR9 : R ≠ 9) (hfn : 0 ≤ f ∧ f + n ≤ nR) (hn : 0 ≤ n ∧ n ≤ 8) (hM : 0 ≤ M ∧ M ≤ 2500) (hV : ∀ i : Nat, (i : Int) < n → 1 ≤ mem 1 (3 + i) ∧ mem 1 (3 + i) ≤ 500) (hC : ∀ i : Nat, (i : Int) < n → 0 ≤ mem R (f.toNat + i) ∧ mem R (f.toNat + i) ≤ 200) (hR11 : R ≠ 11) : Ret shp l yX8_changes cX8_changes 5 (some .int) 3 [pR 0, pR R, pI f, pI n, pI M] mem (fun rv mv => ∃ z, rv = some (pI z) ∧ (∀ a, a ≠ 8 → a ≠ 9 → a ≠ 11 → mv a = mem a) ∧ (fewT (fun i => (mem 1 (3 + i)).toNat) (fun i => (mem R (f.toNat + i)).toNat) n.toNat M.toNat = 1000000 ∧ z = -1 ∨ fewT (fun i => (mem 1 (3 + i)).toNat) (fun i => (mem R (f.toNat + i)).toNat) n.toNat M.toNat < 1000000 ∧ z = fewT (fun i => (mem 1 (3 + i)).toNat) (fun i => (mem R (f.toNat + i)).toNat) n.toNat M.toNat ∧ ∀ j : Nat, j < 8 → mv 11 j = takR (fun i => (mem 1 (3 + i)).toNat) (fun i => (mem R (f.toNat + i)).toNat) n.toNat M.toNat j)) := by
  refine ret_of (by decide +kernel) (Nat.le_of_ble_eq_true rfl) (fun X hX F G => ?_)
  show Ok shp X 5 0 [(0, pR 0), (1, pR R), (2, pI f), (3, pI n), (4, pI M)] [] mem
  refine ok_aload_n F dX8_changes_0 0 rfl ?_
  refine ok_aload_n F dX8_changes_1 1 rfl ?_
  refine ok_iload_n F dX8_changes_2 2 rfl ?_
  refine ok_iload_n F dX8_changes_3 3 rfl ?_
  refine ok_iload F dX8_changes_4 4 rfl ?_
  refine ok_callv F [pR R, pI f, pI n, pI M] dX8_changes_6 kM_X8_laysFewest kI_X8_laysFewest kV_X8_laysFewest kL_X8_202 (ci := 8) rfl sh_0 rfl (by decide) (Nat.le_of_ble_eq_true rfl) rfl (m_X8_laysFewest _ R f n M mem (nR) (hR) (hnR) (hR8) (hR9) (hfn) (hn) (hM) (hV) (hC)) ?_
  rintro _ m_2 ⟨rfl, r_3⟩
  obtain ⟨hF, hT⟩ := r_3
  have h1 := hF 1 (by decide) (by decide)
  have hR1 := hF R hR8 hR9
  have hb := fewT_bd (fun i => (mem 1 (3 + i)).toNat) (fun i => (mem R (f.toNat + i)).toNat) n.toNat M.toNat
  have hTn : m_2 8 (2501 * n + M).toNat = fewT (fun i => (mem 1 (3 + i)).toNat) (fun i => (mem R (f.toNat + i)).toNat) n.toNat M.toNat := by rw [show (2501 * n + M).toNat = 2501 * n.toNat + M.toNat by omega]; exact hT _ (Nat.le_refl _) _ (Nat.le_refl _)
  refine ok_aload_n F dX8_changes_9 0 rfl ?_
  refine ok_iload_n F dX8_changes_10 3 rfl ?_
  refine ok_iload F dX8_changes_11 4 rfl ?_
  refine ok_callv F [pI n, pI M] dX8_changes_13 kM_X8_hasChange kI_X8_hasChange kV_X8_hasChange kL_X8_206 (ci := 8) rfl sh_0 rfl (by decide) (Nat.le_of_ble_eq_true rfl) rfl (m_X8_hasChange _ n M m_2 (by omega) (by omega) (by omega)) ?_
  rintro _ _ ⟨rfl, rfl⟩
  refine ok_if_ne F 21 dX8_changes_16 (by decide) (by omega) (fun c_4 => ?_) (fun c_4 => ?_)
  · refine ok_aload_n F dX8_changes_21 0 rfl ?_
    refine ok_aload_n F dX8_changes_22 1 rfl ?_
    refine ok_iload_n F dX8_changes_23 2 rfl ?_
    refine ok_iload_n F dX8_changes_24 3 rfl ?_
    refine ok_iload F dX8_changes_25 4 rfl ?_
    refine ok_callv F [pR R, pI f, pI n, pI M] dX8_changes_27 kM_X8_laysTaken kI_X8_laysTaken kV_X8_laysTaken kL_X8_210 (ci := 8) rfl sh_0 rfl (by decide) (Nat.le_of_ble_eq_true rfl) rfl (m_X8_laysTaken _ R f n M m_2 (nR) (hR) (hnR) (hR8) (hR9) (hfn) (hn) (hM) (by rw [h1]; exact hV) (by rw [hR1]; exact hC) (hR11) (by rw [h1, hR1]; exact hT) (by rw [h1, hR1]; omega)) ?_
    rintro _ m_6 ⟨rfl, r_7⟩
    obtain ⟨hF2, hT2⟩ := r_7
    rw [h1, hR1] at hT2
    refine ok_aload_n F dX8_changes_30 0 rfl ?_
    refine ok_getr F dX8_changes_31 kF_X8_33 sh_0 rfl ?_
    refine ok_iload_n F dX8_changes_34 3 rfl ?_
    refine ok_iload F dX8_changes_35 4 rfl ?_
    refine ok_calls F [pI n, pI M] dX8_changes_37 kM_X8_cell kS_X8_cell kL_X8_194 rfl (by decide) (Nat.le_of_ble_eq_true rfl) rfl (m_X8_cell _ n M m_6) ?_
    rintro _ _ ⟨rfl, rfl⟩
    refine ok_iald (v := m_6 8 ((2501 * n + M).toNat)) F dX8_changes_40 sh_8 (by first | decide | assumption) (by omega) (by omega) rfl ?_
    refine ok_iret F G dX8_changes_41 ?_
    refine ⟨_, rfl, fun a a1 a2 a3 => by rw [hF2 a a3, hF a a1 a2], Or.inr ⟨by omega, ?_, hT2⟩⟩
    rw [hF2 8 (by decide)]; exact hTn
  · refine ok_iconst F dX8_changes_19 ?_
    refine ok_iret F G dX8_changes_20 ?_
    refine ⟨_, rfl, fun a a1 a2 a3 => hF a a1 a2, Or.inl ⟨by omega, rfl⟩⟩
