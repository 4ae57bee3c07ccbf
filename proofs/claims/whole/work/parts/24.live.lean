/-! the reference: a day lived in earnest; change taken again and again -/
/-- what an act leaves of the rest, behind its entry in the past -/
def KeepP (m1 mv : Mem) : Prop := mv 3 = m1 3 ∧ mv 4 = m1 4 ∧ mv 5 = m1 5 ∧ mv 6 = m1 6 ∧ mv 0 5 = m1 0 5 ∧ mv 0 7 = m1 0 7 ∧ (∀ a, 20 ≤ a ∨ a = 2 ∨ a = 7 → mv a = m1 a) ∧ mv 0 10 = m1 0 10
/-- now, with another row in the till -/
def tillM (f w : Nat → Int) (n : Nat) : Nat → Int := fun b => if 11 ≤ b ∧ b < 11 + n then w (b - 11) else f b
theorem tillM_s {f w : Nat → Int} {n : Nat} {m : Mem} (h : m 1 = tillM f w n) (z : Int) (hz : z = w n) : mset m 1 (11 + n) z 1 = tillM f w (n + 1) := by
  funext b
  by_cases e : b = 11 + n
  · subst e
    rw [mset_eq, hz]
    unfold tillM
    rw [if_pos (by omega), show 11 + n - 11 = n by omega]
  · rw [mset_ne (fun q => e q.2), h]
    unfold tillM
    by_cases g : 11 ≤ b ∧ b < 11 + n
    · rw [if_pos g, if_pos (by omega)]
    · rw [if_neg g, if_neg (by omega)]
/-- change taken so many times, and what the next one would be -/
def evenF (v : Nat → Nat) (n a : Nat) : Nat → (Nat → Int) → Int
  | 0, w => chgF v (fun i => (w i).toNat) n a
  | t + 1, w => if fewT v (fun i => (w i).toNat) n a < 1000000 then evenF v n a t (fun k => if k < n then w k - takR v (fun i => (w i).toNat) n a k else w k) else -2
theorem evenF_s (v : Nat → Nat) (n a t : Nat) (w : Nat → Int) : evenF v n a (t + 1) w = if fewT v (fun i => (w i).toNat) n a < 1000000 then evenF v n a t (fun k => if k < n then w k - takR v (fun i => (w i).toNat) n a k else w k) else -2 := rfl
theorem dX8_live_0 : decode cX8_live 0 = .ok (.aload_n 0, 1) := by decide +kernel
theorem dX8_live_1 : decode cX8_live 1 = .ok (.iload_n 1, 1) := by decide +kernel
theorem dX8_live_2 : decode cX8_live 2 = .ok (.invokevirtual 285, 3) := by decide +kernel
theorem dX8_live_5 : decode cX8_live 5 = .ok (.ifCond .ne 5, 3) := by decide +kernel
theorem dX8_live_8 : decode cX8_live 8 = .ok (.iconst (-1), 1) := by decide +kernel
theorem dX8_live_9 : decode cX8_live 9 = .ok (.ireturn, 1) := by decide +kernel
theorem dX8_live_10 : decode cX8_live 10 = .ok (.aload_n 0, 1) := by decide +kernel
theorem dX8_live_11 : decode cX8_live 11 = .ok (.invokevirtual 224, 3) := by decide +kernel
theorem dX8_live_14 : decode cX8_live 14 = .ok (.aload_n 0, 1) := by decide +kernel
theorem dX8_live_15 : decode cX8_live 15 = .ok (.iload_n 1, 1) := by decide +kernel
theorem dX8_live_16 : decode cX8_live 16 = .ok (.invokevirtual 288, 3) := by decide +kernel
theorem dX8_live_19 : decode cX8_live 19 = .ok (.iconst 0, 1) := by decide +kernel
theorem dX8_live_20 : decode cX8_live 20 = .ok (.istore_n 2, 1) := by decide +kernel
theorem dX8_live_21 : decode cX8_live 21 = .ok (.iload_n 2, 1) := by decide +kernel
theorem dX8_live_22 : decode cX8_live 22 = .ok (.aload_n 0, 1) := by decide +kernel
theorem dX8_live_23 : decode cX8_live 23 = .ok (.getfield 9, 3) := by decide +kernel
theorem dX8_live_26 : decode cX8_live 26 = .ok (.iconst 0, 1) := by decide +kernel
theorem dX8_live_27 : decode cX8_live 27 = .ok (.iaload, 1) := by decide +kernel
theorem dX8_live_28 : decode cX8_live 28 = .ok (.if_icmp .ge 24, 3) := by decide +kernel
theorem dX8_live_31 : decode cX8_live 31 = .ok (.aload_n 0, 1) := by decide +kernel
theorem dX8_live_32 : decode cX8_live 32 = .ok (.getfield 9, 3) := by decide +kernel
theorem dX8_live_35 : decode cX8_live 35 = .ok (.bipush 11, 2) := by decide +kernel
theorem dX8_live_37 : decode cX8_live 37 = .ok (.iload_n 2, 1) := by decide +kernel
theorem dX8_live_38 : decode cX8_live 38 = .ok (.iadd, 1) := by decide +kernel
theorem dX8_live_39 : decode cX8_live 39 = .ok (.aload_n 0, 1) := by decide +kernel
theorem dX8_live_40 : decode cX8_live 40 = .ok (.getfield 52, 3) := by decide +kernel
theorem dX8_live_43 : decode cX8_live 43 = .ok (.iload_n 2, 1) := by decide +kernel
theorem dX8_live_44 : decode cX8_live 44 = .ok (.iaload, 1) := by decide +kernel
theorem dX8_live_45 : decode cX8_live 45 = .ok (.iastore, 1) := by decide +kernel
theorem dX8_live_46 : decode cX8_live 46 = .ok (.iinc 2 1, 3) := by decide +kernel
theorem dX8_live_49 : decode cX8_live 49 = .ok (.goto (-28), 3) := by decide +kernel
theorem dX8_live_52 : decode cX8_live 52 = .ok (.aload_n 0, 1) := by decide +kernel
theorem dX8_live_53 : decode cX8_live 53 = .ok (.getfield 258, 3) := by decide +kernel
theorem dX8_live_56 : decode cX8_live 56 = .ok (.ireturn, 1) := by decide +kernel
set_option maxHeartbeats 4000000 in
set_option maxRecDepth 100000 in
theorem m_X8_live (l : Launch) (d : Int) (mem : Mem) (hd : i32 d) (hP : 0 ≤ mem 0 5 ∧ mem 0 5 ≤ 10) (hN1 : 0 ≤ mem 1 1 ∧ mem 1 1 ≤ 5) (hN : 0 ≤ mem 1 0 ∧ mem 1 0 ≤ 8) (hVl : ∀ i : Nat, (i : Int) < mem 1 0 → 1 ≤ mem 1 (3 + i) ∧ mem 1 (3 + i) ≤ 500) (hN2 : 0 ≤ mem 1 2 ∧ mem 1 2 ≤ 40) (hR : ∀ b, i32 (mem 1 b)) (hAb : ∀ s : Nat, (s : Int) < mem 1 2 → 0 ≤ abvS (mem 1) s ∧ abvS (mem 1) s ≤ 2500) (hG : ∀ s : Nat, (s : Int) < mem 1 2 → ∀ k : Nat, k < 8 → 0 ≤ sGiven (mem 1) s k ∧ sGiven (mem 1) s k ≤ 5) (hTl : ∀ k : Nat, k < 8 → 0 ≤ mem 1 (11 + k) ∧ mem 1 (11 + k) ≤ 99) : Ret shp l yX8_live cX8_live 3 (some .int) 7 [pR 0, pI d] mem (fun rv mv => ∃ z, rv = some (pI z) ∧ (¬ (0 ≤ d ∧ d < mem 1 1) ∧ z = -1 ∧ mv = mem ∨ (0 ≤ d ∧ d < mem 1 1) ∧ ∃ m1, PastPush mem m1 ∧ z = (lifeD mem d).2.2.1 ∧ KeepP m1 mv ∧ mv 1 = tillM (mem 1) (lifeD mem d).1 (mem 1 0).toNat)) := by
  refine ret_of (by decide +kernel) (Nat.le_of_ble_eq_true rfl) (fun X hX F G => ?_)
  show Ok shp X 3 0 [(0, pR 0), (1, pI d)] [] mem
  refine ok_aload_n F dX8_live_0 0 rfl ?_
  refine ok_iload_n F dX8_live_1 1 rfl ?_
  refine ok_callv F [pI d] dX8_live_2 kM_X8_isDay kI_X8_isDay kV_X8_isDay kL_X8_285 (ci := 8) rfl sh_0 rfl (by decide) (Nat.le_of_ble_eq_true rfl) rfl (m_X8_isDay _ d mem (by omega) (by omega)) ?_
  rintro _ _ ⟨rfl, rfl⟩
  refine ok_if_ne F 10 dX8_live_5 (by decide) (by first | omega | exact hR _) (fun c_1 => ?_) (fun c_1 => ?_)
  · refine ok_aload_n F dX8_live_10 0 rfl ?_
    refine ok_callv F [] dX8_live_11 kM_X8_keepsPast kI_X8_keepsPast kV_X8_keepsPast kL_X8_224 (ci := 8) rfl sh_0 rfl (by decide) (Nat.le_of_ble_eq_true rfl) rfl (m_X8_keepsPast _ mem (by omega)) ?_
    rintro _ m_3 ⟨rfl, r_4⟩
    obtain ⟨m1, hm1⟩ : ∃ x, x = m_3 := ⟨_, rfl⟩
    have hpp : PastPush mem m1 := by rw [hm1]; assumption
    have h1 : m_3 1 = mem 1 := by rw [← hm1]; exact hpp.now
    refine ok_aload_n F dX8_live_14 0 rfl ?_
    refine ok_iload_n F dX8_live_15 1 rfl ?_
    refine ok_callv F [pI d] dX8_live_16 kM_X8_livesNow kI_X8_livesNow kV_X8_livesNow kL_X8_288 (ci := 8) rfl sh_0 rfl (by decide) (Nat.le_of_ble_eq_true rfl) rfl (m_X8_livesNow _ d m_3 (by omega) (by rw [h1]; exact hN) (by rw [h1]; exact hVl) (by rw [h1]; exact hN2) (by rw [h1]; exact hR) (by rw [h1]; exact hAb) (by rw [h1]; exact hG) (by rw [h1]; exact hTl)) ?_
    rintro _ m_6 ⟨rfl, r_7⟩
    obtain ⟨q1, q2, nu, q3⟩ := id r_7
    rw [← hm1] at q1 q2 q3
    obtain ⟨m2, hm2⟩ : ∃ x, x = m_6 := ⟨_, rfl⟩
    rw [← hm2] at q1 q2 q3
    have hcg := lifeD_congr (m := m1) (mem := mem) (d := d) hpp.now hN.2
    have h21 : m2 1 = mem 1 := by rw [q1 1 (by decide) (by decide) (by decide) (by decide) (by decide) (by decide) (by decide)]; exact hpp.now
    refine ok_iconst F dX8_live_19 ?_
    refine ok_istore_n (lv' := [(2, pI 0), (0, pR 0), (1, pI d)]) F dX8_live_20 (by decide) rfl ?_
    have hL_21 : ∀ (n_21 : Nat) (k : Int) (m : Mem), (0 ≤ k ∧ k ≤ mem 1 0 ∧ (∀ a, a ≠ 1 → m a = m2 a) ∧ m 1 = tillM (mem 1) (lifeD mem d).1 k.toNat) → (mem 1 0 - k).toNat = n_21 → Ok shp X 3 21 [(0, pR 0), (1, pI d), (2, pI k)] [] m := by
      intro n_21
      induction n_21 using Nat.strongRecOn with
      | _ n_21 ih_21 =>
        intro k m hI_21 hn_21
        obtain ⟨hk0, hk1, hF, hM⟩ := hI_21
        have hN0 : m 1 0 = mem 1 0 := by rw [hM]; unfold tillM; rw [if_neg (by omega)]
        refine ok_iload_n F dX8_live_21 2 rfl ?_
        refine ok_aload_n F dX8_live_22 0 rfl ?_
        refine ok_getr F dX8_live_23 kF_X8_9 sh_0 rfl ?_
        refine ok_iconst F dX8_live_26 ?_
        refine ok_iald (v := m 1 0) F dX8_live_27 sh_1 (by first | decide | assumption) (by first | omega | exact hR _) (by first | omega | exact hR _) rfl ?_
        refine ok_icmp_ge F 52 dX8_live_28 (by decide) (by first | omega | exact hR _) (by first | omega | exact hR _) (fun c_8 => ?_) (fun c_8 => ?_)
        · refine ok_aload_n F dX8_live_52 0 rfl ?_
          refine ok_getf (v := m 0 21) F dX8_live_53 kF_X8_258 sh_0 rfl rfl ?_
          refine ok_iret F G dX8_live_56 ?_
          refine ⟨_, rfl, Or.inr ⟨by omega, m1, hpp, ?_, ⟨by rw [hF 3 (by decide), q1 3 (by decide) (by decide) (by decide) (by decide) (by decide) (by decide) (by decide)], by rw [hF 4 (by decide), q1 4 (by decide) (by decide) (by decide) (by decide) (by decide) (by decide) (by decide)], by rw [hF 5 (by decide), q1 5 (by decide) (by decide) (by decide) (by decide) (by decide) (by decide) (by decide)], by rw [hF 6 (by decide), q1 6 (by decide) (by decide) (by decide) (by decide) (by decide) (by decide) (by decide)], by rw [hF 0 (by decide), q2 5 (by decide)], by rw [hF 0 (by decide), q2 7 (by decide)], fun q hq => by rw [hF q (by omega), q1 q (by omega) (by omega) (by omega) (by omega) (by omega) (by omega) (by omega)], by rw [hF 0 (by decide), q2 10 (by decide)]⟩, by rw [hM, show k = mem 1 0 by omega]⟩⟩
          rw [hF 0 (by decide), q3.2.2.1, hcg.2.2]
        · refine ok_aload_n F dX8_live_31 0 rfl ?_
          refine ok_getr F dX8_live_32 kF_X8_9 sh_0 rfl ?_
          refine ok_bipush F dX8_live_35 rfl ?_
          refine ok_iload_n F dX8_live_37 2 rfl ?_
          refine ok_iadd F dX8_live_38 ?_
          refine ok_aload_n F dX8_live_39 0 rfl ?_
          refine ok_getr F dX8_live_40 kF_X8_52 sh_0 rfl ?_
          refine ok_iload_n F dX8_live_43 2 rfl ?_
          refine ok_iald (v := m 14 k.toNat) F dX8_live_44 sh_14 (by first | decide | assumption) (by first | omega | exact hR _) (by first | omega | exact hR _) rfl ?_
          refine ok_iast F dX8_live_45 sh_1 (by first | decide | assumption) (by first | omega | exact hR _) (by first | omega | exact hR _) (fun m_9 e_10 => ?_)
          refine ok_iinc (lv' := [(2, pI (k + 1)), (0, pR 0), (1, pI d)]) F dX8_live_46 2 rfl (by decide) rfl ?_
          refine ok_goto F 21 dX8_live_49 (by decide) ?_
          refine ok_lvp [1, 2, 0] (lv' := [(0, pR 0), (1, pI d), (2, pI (k + 1))]) rfl ?_
          refine ih_21 _ ?_ (k + 1) m_9 ?_ rfl
          · omega
          · refine ⟨by omega, by omega, fun a a1 => by rw [← hF a a1, e_10]; funext b; exact mset_nk a1, ?_⟩
            rw [e_10, show (11 + k).toNat = 11 + k.toNat by omega, show (k + 1).toNat = k.toNat + 1 by omega]
            exact tillM_s hM _ (by rw [hF 14 (by decide), q3.1]; exact hcg.1 _ (by omega))
    refine ok_lvp [1, 2, 0] (lv' := [(0, pR 0), (1, pI d), (2, pI 0)]) rfl ?_
    refine hL_21 _ 0 m_6 ?_ rfl
    refine ⟨by omega, by omega, fun a _ => by rw [hm2], ?_⟩
    rw [← hm2, h21]
    funext b
    unfold tillM
    rw [if_neg (by omega)]
  · refine ok_iconst F dX8_live_8 ?_
    refine ok_iret F G dX8_live_9 ?_
    exact ⟨_, rfl, Or.inl ⟨by omega, rfl, rfl⟩⟩
theorem dX8_even_0 : decode cX8_even 0 = .ok (.iload_n 1, 1) := by decide +kernel
theorem dX8_even_1 : decode cX8_even 1 = .ok (.invokestatic 307, 3) := by decide +kernel
theorem dX8_even_4 : decode cX8_even 4 = .ok (.ifCond .eq 15, 3) := by decide +kernel
theorem dX8_even_7 : decode cX8_even 7 = .ok (.iload_n 2, 1) := by decide +kernel
theorem dX8_even_8 : decode cX8_even 8 = .ok (.i2l, 1) := by decide +kernel
theorem dX8_even_9 : decode cX8_even 9 = .ok (.lconst 0, 1) := by decide +kernel
theorem dX8_even_10 : decode cX8_even 10 = .ok (.ldc2_w 330, 3) := by decide +kernel
theorem dX8_even_13 : decode cX8_even 13 = .ok (.invokestatic 100, 3) := by decide +kernel
theorem dX8_even_16 : decode cX8_even 16 = .ok (.ifCond .ne 5, 3) := by decide +kernel
theorem dX8_even_19 : decode cX8_even 19 = .ok (.iconst (-1), 1) := by decide +kernel
theorem dX8_even_20 : decode cX8_even 20 = .ok (.ireturn, 1) := by decide +kernel
theorem dX8_even_21 : decode cX8_even 21 = .ok (.aload_n 0, 1) := by decide +kernel
theorem dX8_even_22 : decode cX8_even 22 = .ok (.invokevirtual 279, 3) := by decide +kernel
theorem dX8_even_25 : decode cX8_even 25 = .ok (.iconst 0, 1) := by decide +kernel
theorem dX8_even_26 : decode cX8_even 26 = .ok (.istore_n 3, 1) := by decide +kernel
theorem dX8_even_27 : decode cX8_even 27 = .ok (.iload_n 3, 1) := by decide +kernel
theorem dX8_even_28 : decode cX8_even 28 = .ok (.iload_n 2, 1) := by decide +kernel
theorem dX8_even_29 : decode cX8_even 29 = .ok (.if_icmp .ge 69, 3) := by decide +kernel
theorem dX8_even_32 : decode cX8_even 32 = .ok (.aload_n 0, 1) := by decide +kernel
theorem dX8_even_33 : decode cX8_even 33 = .ok (.aload_n 0, 1) := by decide +kernel
theorem dX8_even_34 : decode cX8_even 34 = .ok (.getfield 52, 3) := by decide +kernel
theorem dX8_even_37 : decode cX8_even 37 = .ok (.iconst 0, 1) := by decide +kernel
theorem dX8_even_38 : decode cX8_even 38 = .ok (.aload_n 0, 1) := by decide +kernel
theorem dX8_even_39 : decode cX8_even 39 = .ok (.getfield 9, 3) := by decide +kernel
theorem dX8_even_42 : decode cX8_even 42 = .ok (.iconst 0, 1) := by decide +kernel
theorem dX8_even_43 : decode cX8_even 43 = .ok (.iaload, 1) := by decide +kernel
theorem dX8_even_44 : decode cX8_even 44 = .ok (.iload_n 1, 1) := by decide +kernel
theorem dX8_even_45 : decode cX8_even 45 = .ok (.invokevirtual 235, 3) := by decide +kernel
theorem dX8_even_48 : decode cX8_even 48 = .ok (.iconst (-1), 1) := by decide +kernel
theorem dX8_even_49 : decode cX8_even 49 = .ok (.if_icmp .ne 6, 3) := by decide +kernel
theorem dX8_even_52 : decode cX8_even 52 = .ok (.bipush (-2), 2) := by decide +kernel
theorem dX8_even_54 : decode cX8_even 54 = .ok (.ireturn, 1) := by decide +kernel
theorem dX8_even_55 : decode cX8_even 55 = .ok (.iconst 0, 1) := by decide +kernel
theorem dX8_even_56 : decode cX8_even 56 = .ok (.istore 4, 2) := by decide +kernel
theorem dX8_even_58 : decode cX8_even 58 = .ok (.iload 4, 2) := by decide +kernel
theorem dX8_even_60 : decode cX8_even 60 = .ok (.aload_n 0, 1) := by decide +kernel
theorem dX8_even_61 : decode cX8_even 61 = .ok (.getfield 9, 3) := by decide +kernel
theorem dX8_even_64 : decode cX8_even 64 = .ok (.iconst 0, 1) := by decide +kernel
theorem dX8_even_65 : decode cX8_even 65 = .ok (.iaload, 1) := by decide +kernel
theorem dX8_even_66 : decode cX8_even 66 = .ok (.if_icmp .ge 26, 3) := by decide +kernel
theorem dX8_even_69 : decode cX8_even 69 = .ok (.aload_n 0, 1) := by decide +kernel
theorem dX8_even_70 : decode cX8_even 70 = .ok (.getfield 52, 3) := by decide +kernel
theorem dX8_even_73 : decode cX8_even 73 = .ok (.iload 4, 2) := by decide +kernel
theorem dX8_even_75 : decode cX8_even 75 = .ok (.dup2, 1) := by decide +kernel
theorem dX8_even_76 : decode cX8_even 76 = .ok (.iaload, 1) := by decide +kernel
theorem dX8_even_77 : decode cX8_even 77 = .ok (.aload_n 0, 1) := by decide +kernel
theorem dX8_even_78 : decode cX8_even 78 = .ok (.getfield 42, 3) := by decide +kernel
theorem dX8_even_81 : decode cX8_even 81 = .ok (.iload 4, 2) := by decide +kernel
theorem dX8_even_83 : decode cX8_even 83 = .ok (.iaload, 1) := by decide +kernel
theorem dX8_even_84 : decode cX8_even 84 = .ok (.isub, 1) := by decide +kernel
theorem dX8_even_85 : decode cX8_even 85 = .ok (.iastore, 1) := by decide +kernel
theorem dX8_even_86 : decode cX8_even 86 = .ok (.iinc 4 1, 3) := by decide +kernel
theorem dX8_even_89 : decode cX8_even 89 = .ok (.goto (-31), 3) := by decide +kernel
theorem dX8_even_92 : decode cX8_even 92 = .ok (.iinc 3 1, 3) := by decide +kernel
theorem dX8_even_95 : decode cX8_even 95 = .ok (.goto (-68), 3) := by decide +kernel
theorem dX8_even_98 : decode cX8_even 98 = .ok (.aload_n 0, 1) := by decide +kernel
theorem dX8_even_99 : decode cX8_even 99 = .ok (.aload_n 0, 1) := by decide +kernel
theorem dX8_even_100 : decode cX8_even 100 = .ok (.getfield 52, 3) := by decide +kernel
theorem dX8_even_103 : decode cX8_even 103 = .ok (.iconst 0, 1) := by decide +kernel
theorem dX8_even_104 : decode cX8_even 104 = .ok (.aload_n 0, 1) := by decide +kernel
theorem dX8_even_105 : decode cX8_even 105 = .ok (.getfield 9, 3) := by decide +kernel
theorem dX8_even_108 : decode cX8_even 108 = .ok (.iconst 0, 1) := by decide +kernel
theorem dX8_even_109 : decode cX8_even 109 = .ok (.iaload, 1) := by decide +kernel
theorem dX8_even_110 : decode cX8_even 110 = .ok (.iload_n 1, 1) := by decide +kernel
theorem dX8_even_111 : decode cX8_even 111 = .ok (.invokevirtual 235, 3) := by decide +kernel
theorem dX8_even_114 : decode cX8_even 114 = .ok (.istore_n 3, 1) := by decide +kernel
theorem dX8_even_115 : decode cX8_even 115 = .ok (.iload_n 3, 1) := by decide +kernel
theorem dX8_even_116 : decode cX8_even 116 = .ok (.iconst (-1), 1) := by decide +kernel
theorem dX8_even_117 : decode cX8_even 117 = .ok (.if_icmp .ne 8, 3) := by decide +kernel
theorem dX8_even_120 : decode cX8_even 120 = .ok (.bipush (-2), 2) := by decide +kernel
theorem dX8_even_122 : decode cX8_even 122 = .ok (.goto 4, 3) := by decide +kernel
theorem dX8_even_125 : decode cX8_even 125 = .ok (.iload_n 3, 1) := by decide +kernel
theorem dX8_even_126 : decode cX8_even 126 = .ok (.ireturn, 1) := by decide +kernel
set_option maxHeartbeats 4000000 in
set_option maxRecDepth 100000 in
theorem m_X8_even (l : Launch) (a : Int) (t : Int) (mem : Mem) (ha : i32 a) (ht : i32 t) (hN : 0 ≤ mem 1 0 ∧ mem 1 0 ≤ 8) (hVl : ∀ i : Nat, (i : Int) < mem 1 0 → 1 ≤ mem 1 (3 + i) ∧ mem 1 (3 + i) ≤ 500) (hTl : ∀ k : Nat, k < 8 → 0 ≤ mem 1 (11 + k) ∧ mem 1 (11 + k) ≤ 99) : Ret shp l yX8_even cX8_even 5 (some .int) 4 [pR 0, pI a, pI t] mem (fun rv mv => ∃ z, rv = some (pI z) ∧ Keep mem mv ∧ z = if (0 ≤ a ∧ a ≤ 2500) ∧ 0 ≤ t ∧ t ≤ 20 then evenF (fun i => (mem 1 (3 + i)).toNat) (mem 1 0).toNat a.toNat t.toNat (tillW mem) else -1) := by
  refine ret_of (by decide +kernel) (Nat.le_of_ble_eq_true rfl) (fun X hX F G => ?_)
  show Ok shp X 5 0 [(0, pR 0), (1, pI a), (2, pI t)] [] mem
  refine ok_iload_n F dX8_even_0 1 rfl ?_
  refine ok_calls F [pI a] dX8_even_1 kM_X8_isAmount kS_X8_isAmount kL_X8_307 rfl (by decide) (Nat.le_of_ble_eq_true rfl) rfl (m_X8_isAmount _ a mem (by omega)) ?_
  rintro _ _ ⟨rfl, rfl⟩
  refine ok_if_eq F 19 dX8_even_4 (by decide) (by omega) (fun c_1 => ?_) (fun c_1 => ?_)
  · refine ok_iconst F dX8_even_19 ?_
    refine ok_iret F G dX8_even_20 ?_
    exact ⟨_, rfl, Keep.rf _, by rw [if_neg (by omega)]⟩
  · refine ok_iload_n F dX8_even_7 2 rfl ?_
    refine ok_i2l F dX8_even_8 (by omega) ?_
    refine ok_lconst (z := 0) F dX8_even_9 rfl ?_
    refine ok_ldc2 (n := 20) F dX8_even_10 kJ_X8_330 rfl ?_
    refine ok_calls F [pL t, pL 0, pL 20] dX8_even_13 kM_X8_in kS_X8_in kL_X8_100 rfl (by decide) (Nat.le_of_ble_eq_true rfl) rfl (m_X8_in _ t 0 20 mem (by omega) (by omega) (by omega)) ?_
    rintro _ _ ⟨rfl, rfl⟩
    refine ok_if_ne F 21 dX8_even_16 (by decide) (by omega) (fun c_2 => ?_) (fun c_2 => ?_)
    · refine ok_aload_n F dX8_even_21 0 rfl ?_
      refine ok_callv F [] dX8_even_22 kM_X8_laysWork kI_X8_laysWork kV_X8_laysWork kL_X8_279 (ci := 8) rfl sh_0 rfl (by decide) (Nat.le_of_ble_eq_true rfl) rfl (m_X8_laysWork _ mem) ?_
      rintro _ m_3 ⟨rfl, e_4⟩
      refine ok_iconst F dX8_even_25 ?_
      refine ok_istore_n (lv' := [(3, pI 0), (0, pR 0), (1, pI a), (2, pI t)]) F dX8_even_26 (by decide) rfl ?_
      have em : m_3 = cpyN mem 1 11 14 0 8 := by assumption
      have gx : ∀ a, a ≠ 14 → m_3 a = mem a := fun a ha => by rw [em]; funext b; exact cpyN_ne ha
      have g14 : m_3 14 = tillW mem := by rw [em]; rfl
      have hL_27 : ∀ (n_27 : Nat) (i : Int) (m : Mem), (0 ≤ i ∧ i ≤ t ∧ (∀ q, q ≠ 8 → q ≠ 9 → q ≠ 11 → q ≠ 14 → m q = mem q) ∧ (∀ k : Nat, k < 8 → 0 ≤ m 14 k ∧ m 14 k ≤ 99) ∧ evenF (fun i => (mem 1 (3 + i)).toNat) (mem 1 0).toNat a.toNat t.toNat (tillW mem) = evenF (fun i => (mem 1 (3 + i)).toNat) (mem 1 0).toNat a.toNat (t - i).toNat (m 14)) → (t - i).toNat = n_27 → Ok shp X 5 27 [(0, pR 0), (1, pI a), (2, pI t), (3, pI i)] [] m := by
        intro n_27
        induction n_27 using Nat.strongRecOn with
        | _ n_27 ih_27 =>
          intro i m hI_27 hn_27
          obtain ⟨hi0, hi1, hF, hw, he⟩ := hI_27
          have h1 := hF 1 (by decide) (by decide) (by decide) (by decide)
          refine ok_iload_n F dX8_even_27 3 rfl ?_
          refine ok_iload_n F dX8_even_28 2 rfl ?_
          refine ok_icmp_ge F 98 dX8_even_29 (by decide) (by omega) (by omega) (fun c_5 => ?_) (fun c_5 => ?_)
          · refine ok_aload_n F dX8_even_98 0 rfl ?_
            refine ok_aload_n F dX8_even_99 0 rfl ?_
            refine ok_getr F dX8_even_100 kF_X8_52 sh_0 rfl ?_
            refine ok_iconst F dX8_even_103 ?_
            refine ok_aload_n F dX8_even_104 0 rfl ?_
            refine ok_getr F dX8_even_105 kF_X8_9 sh_0 rfl ?_
            refine ok_iconst F dX8_even_108 ?_
            refine ok_iald (v := mem 1 0) F dX8_even_109 sh_1 (by first | decide | assumption) (by omega) (by omega) (by rw [h1] <;> rfl) ?_
            refine ok_iload_n F dX8_even_110 1 rfl ?_
            refine ok_callv F [pR 14, pI 0, pI (mem 1 0), pI a] dX8_even_111 kM_X8_changes kI_X8_changes kV_X8_changes kL_X8_235 (ci := 8) rfl sh_0 rfl (by decide) (Nat.le_of_ble_eq_true rfl) rfl (m_X8_changes _ 14 0 (mem 1 0) a m (8) (sh_14) (by decide) (by decide) (by decide) (by omega) (by omega) (by omega) (by rw [h1]; exact fun i hi => hVl i (by omega)) (fun i hi => by have := hw i (by omega); rw [show (0 : Int).toNat + i = i from Nat.zero_add i]; omega) (by decide)) ?_
            rintro _ m_7 ⟨z_6, rfl, r_8⟩
            obtain ⟨hfr, hch0⟩ := id r_8
            rw [h1] at hch0
            have hch : (fewT (fun i => (mem 1 (3 + i)).toNat) (fun i => (m 14 i).toNat) (mem 1 0).toNat a.toNat = 1000000 ∧ z_6 = -1 ∨ fewT (fun i => (mem 1 (3 + i)).toNat) (fun i => (m 14 i).toNat) (mem 1 0).toNat a.toNat < 1000000 ∧ z_6 = fewT (fun i => (mem 1 (3 + i)).toNat) (fun i => (m 14 i).toNat) (mem 1 0).toNat a.toNat ∧ ∀ j : Nat, j < 8 → m_7 11 j = takR (fun i => (mem 1 (3 + i)).toNat) (fun i => (m 14 i).toNat) (mem 1 0).toNat a.toNat j) := by
              have e0 : (fun i => (m 14 ((0 : Int).toNat + i)).toNat) = fun i => (m 14 i).toNat := by funext i; rw [show (0 : Int).toNat + i = i from Nat.zero_add i]
              rw [e0] at hch0
              exact hch0
            have hfb := fewT_bd (fun i => (mem 1 (3 + i)).toNat) (fun i => (m 14 i).toNat) (mem 1 0).toNat a.toNat
            refine ok_istore_n (lv' := [(3, pI z_6), (0, pR 0), (1, pI a), (2, pI t)]) F dX8_even_114 (by decide) rfl ?_
            refine ok_iload_n F dX8_even_115 0 rfl ?_
            refine ok_iconst F dX8_even_116 ?_
            refine ok_icmp_ne F 125 dX8_even_117 (by decide) (by omega) (by omega) (fun c_9 => ?_) (fun c_9 => ?_)
            · refine ok_iload_n F dX8_even_125 0 rfl ?_
              refine ok_iret F G dX8_even_126 ?_
              refine ⟨_, rfl, ?_, ?_⟩
              · exact ⟨(by rw [hfr 1 (by decide) (by decide) (by decide), hF 1 (by decide) (by decide) (by decide) (by decide)]), (by rw [hfr 3 (by decide) (by decide) (by decide), hF 3 (by decide) (by decide) (by decide) (by decide)]), (by rw [hfr 4 (by decide) (by decide) (by decide), hF 4 (by decide) (by decide) (by decide) (by decide)]), (by rw [hfr 5 (by decide) (by decide) (by decide), hF 5 (by decide) (by decide) (by decide) (by decide)]), (by rw [hfr 6 (by decide) (by decide) (by decide), hF 6 (by decide) (by decide) (by decide) (by decide)]), by rw [hfr 0 (by decide) (by decide) (by decide), hF 0 (by decide) (by decide) (by decide) (by decide)], by rw [hfr 0 (by decide) (by decide) (by decide), hF 0 (by decide) (by decide) (by decide) (by decide)], fun q hq => by rw [hfr q (by omega) (by omega) (by omega), hF q (by omega) (by omega) (by omega) (by omega)], by rw [hfr 0 (by decide) (by decide) (by decide), hF 0 (by decide) (by decide) (by decide) (by decide)]⟩
              · rw [if_pos (by omega), he, show (t - i).toNat = 0 by omega, evenF, chgF]; omega
            · refine ok_bipush F dX8_even_120 rfl ?_
              refine ok_goto F 126 dX8_even_122 (by decide) ?_
              refine ok_iret F G dX8_even_126 ?_
              refine ⟨_, rfl, ?_, ?_⟩
              · exact ⟨(by rw [hfr 1 (by decide) (by decide) (by decide), hF 1 (by decide) (by decide) (by decide) (by decide)]), (by rw [hfr 3 (by decide) (by decide) (by decide), hF 3 (by decide) (by decide) (by decide) (by decide)]), (by rw [hfr 4 (by decide) (by decide) (by decide), hF 4 (by decide) (by decide) (by decide) (by decide)]), (by rw [hfr 5 (by decide) (by decide) (by decide), hF 5 (by decide) (by decide) (by decide) (by decide)]), (by rw [hfr 6 (by decide) (by decide) (by decide), hF 6 (by decide) (by decide) (by decide) (by decide)]), by rw [hfr 0 (by decide) (by decide) (by decide), hF 0 (by decide) (by decide) (by decide) (by decide)], by rw [hfr 0 (by decide) (by decide) (by decide), hF 0 (by decide) (by decide) (by decide) (by decide)], fun q hq => by rw [hfr q (by omega) (by omega) (by omega), hF q (by omega) (by omega) (by omega) (by omega)], by rw [hfr 0 (by decide) (by decide) (by decide), hF 0 (by decide) (by decide) (by decide) (by decide)]⟩
              · rw [if_pos (by omega), he, show (t - i).toNat = 0 by omega, evenF, chgF]; omega
          · refine ok_aload_n F dX8_even_32 0 rfl ?_
            refine ok_aload_n F dX8_even_33 0 rfl ?_
            refine ok_getr F dX8_even_34 kF_X8_52 sh_0 rfl ?_
            refine ok_iconst F dX8_even_37 ?_
            refine ok_aload_n F dX8_even_38 0 rfl ?_
            refine ok_getr F dX8_even_39 kF_X8_9 sh_0 rfl ?_
            refine ok_iconst F dX8_even_42 ?_
            refine ok_iald (v := mem 1 0) F dX8_even_43 sh_1 (by first | decide | assumption) (by omega) (by omega) (by rw [h1] <;> rfl) ?_
            refine ok_iload_n F dX8_even_44 1 rfl ?_
            refine ok_callv F [pR 14, pI 0, pI (mem 1 0), pI a] dX8_even_45 kM_X8_changes kI_X8_changes kV_X8_changes kL_X8_235 (ci := 8) rfl sh_0 rfl (by decide) (Nat.le_of_ble_eq_true rfl) rfl (m_X8_changes _ 14 0 (mem 1 0) a m (8) (sh_14) (by decide) (by decide) (by decide) (by omega) (by omega) (by omega) (by rw [h1]; exact fun i hi => hVl i (by omega)) (fun i hi => by have := hw i (by omega); rw [show (0 : Int).toNat + i = i from Nat.zero_add i]; omega) (by decide)) ?_
            rintro _ m_11 ⟨z_10, rfl, r_12⟩
            obtain ⟨hfr, hch0⟩ := id r_12
            rw [h1] at hch0
            have hch : (fewT (fun i => (mem 1 (3 + i)).toNat) (fun i => (m 14 i).toNat) (mem 1 0).toNat a.toNat = 1000000 ∧ z_10 = -1 ∨ fewT (fun i => (mem 1 (3 + i)).toNat) (fun i => (m 14 i).toNat) (mem 1 0).toNat a.toNat < 1000000 ∧ z_10 = fewT (fun i => (mem 1 (3 + i)).toNat) (fun i => (m 14 i).toNat) (mem 1 0).toNat a.toNat ∧ ∀ j : Nat, j < 8 → m_11 11 j = takR (fun i => (mem 1 (3 + i)).toNat) (fun i => (m 14 i).toNat) (mem 1 0).toNat a.toNat j) := by
              have e0 : (fun i => (m 14 ((0 : Int).toNat + i)).toNat) = fun i => (m 14 i).toNat := by funext i; rw [show (0 : Int).toNat + i = i from Nat.zero_add i]
              rw [e0] at hch0
              exact hch0
            have hfb := fewT_bd (fun i => (mem 1 (3 + i)).toNat) (fun i => (m 14 i).toNat) (mem 1 0).toNat a.toNat
            refine ok_iconst F dX8_even_48 ?_
            refine ok_icmp_ne F 55 dX8_even_49 (by decide) (by omega) (by omega) (fun c_13 => ?_) (fun c_13 => ?_)
            · refine ok_iconst F dX8_even_55 ?_
              refine ok_istore (lv' := [(4, pI 0), (0, pR 0), (1, pI a), (2, pI t), (3, pI i)]) F dX8_even_56 (by decide) rfl ?_
              obtain ⟨m5, hm5⟩ : ∃ x, x = m_11 := ⟨_, rfl⟩
              have hfr5 := hfr
              rw [← hm5] at hfr5 hch
              have hT5 := (hch.resolve_left (fun x => by omega)).2.2
              have hL_58 : ∀ (n_58 : Nat) (j : Int) (m9 : Mem), (0 ≤ j ∧ j ≤ mem 1 0 ∧ (∀ q, q ≠ 14 → m9 q = m5 q) ∧ ∀ k : Nat, m9 14 k = if (k : Int) < j then m 14 k - (takR (fun i => (mem 1 (3 + i)).toNat) (fun i => (m 14 i).toNat) (mem 1 0).toNat a.toNat k : Int) else m 14 k) → (mem 1 0 - j).toNat = n_58 → Ok shp X 5 58 [(0, pR 0), (1, pI a), (2, pI t), (3, pI i), (4, pI j)] [] m9 := by
                intro n_58
                induction n_58 using Nat.strongRecOn with
                | _ n_58 ih_58 =>
                  intro j m9 hI_58 hn_58
                  obtain ⟨hj0, hj1, hF9, h149⟩ := hI_58
                  have h19 : m9 1 = mem 1 := by rw [hF9 1 (by decide), hfr5 1 (by decide) (by decide) (by decide), h1]
                  refine ok_iload F dX8_even_58 4 rfl ?_
                  refine ok_aload_n F dX8_even_60 0 rfl ?_
                  refine ok_getr F dX8_even_61 kF_X8_9 sh_0 rfl ?_
                  refine ok_iconst F dX8_even_64 ?_
                  refine ok_iald (v := mem 1 0) F dX8_even_65 sh_1 (by first | decide | assumption) (by omega) (by omega) (by rw [h19] <;> rfl) ?_
                  refine ok_icmp_ge F 92 dX8_even_66 (by decide) (by omega) (by omega) (fun c_14 => ?_) (fun c_14 => ?_)
                  · refine ok_iinc (lv' := [(3, pI (i + 1)), (0, pR 0), (1, pI a), (2, pI t), (4, pI j)]) F dX8_even_92 3 rfl (by decide) rfl ?_
                    refine ok_goto F 27 dX8_even_95 (by decide) ?_
                    refine ok_lvp [1, 2, 3, 0] (lv' := [(0, pR 0), (1, pI a), (2, pI t), (3, pI (i + 1))]) rfl ?_
                    refine ih_27 _ ?_ (i + 1) m9 ?_ rfl
                    · omega
                    · have ej : j = mem 1 0 := by omega
                      refine ⟨by omega, by omega, fun q a1 a2 a3 a4 => by rw [hF9 q a4, hfr5 q a1 a2 a3, hF q a1 a2 a3 a4], fun k hk => ?_, ?_⟩
                      · rw [h149, ej]
                        have hk9 := hw k hk
                        by_cases g : (k : Int) < mem 1 0
                        · rw [if_pos g]; have hle := takR_le (fun i => (mem 1 (3 + i)).toNat) (fun i => (m 14 i).toNat) (mem 1 0).toNat a.toNat k (by omega); (try dsimp only at hle); omega
                        · rw [if_neg g]; exact hk9
                      · rw [he, show (t - i).toNat = (t - (i + 1)).toNat + 1 by omega, evenF_s, if_pos (by omega)]
                        congr 1
                        funext k
                        rw [h149, ej]
                        by_cases g : (k : Int) < mem 1 0
                        · rw [if_pos g, if_pos (by omega)]
                        · rw [if_neg g, if_neg (by omega)]
                  · refine ok_aload_n F dX8_even_69 0 rfl ?_
                    refine ok_getr F dX8_even_70 kF_X8_52 sh_0 rfl ?_
                    refine ok_iload F dX8_even_73 4 rfl ?_
                    refine ok_dup2 F dX8_even_75 rfl rfl ?_
                    refine ok_iald (v := m9 14 j.toNat) F dX8_even_76 sh_14 (by first | decide | assumption) (by omega) (by omega) rfl ?_
                    refine ok_aload_n F dX8_even_77 0 rfl ?_
                    refine ok_getr F dX8_even_78 kF_X8_42 sh_0 rfl ?_
                    refine ok_iload F dX8_even_81 4 rfl ?_
                    refine ok_iald (v := m9 11 j.toNat) F dX8_even_83 sh_11 (by first | decide | assumption) (by omega) (by omega) rfl ?_
                    refine ok_isub F dX8_even_84 ?_
                    refine ok_iast F dX8_even_85 sh_14 (by first | decide | assumption) (by omega) (by omega) (fun m_15 e_16 => ?_)
                    refine ok_iinc (lv' := [(4, pI (j + 1)), (0, pR 0), (1, pI a), (2, pI t), (3, pI i)]) F dX8_even_86 4 rfl (by decide) rfl ?_
                    refine ok_goto F 58 dX8_even_89 (by decide) ?_
                    refine ok_lvp [1, 2, 3, 4, 0] (lv' := [(0, pR 0), (1, pI a), (2, pI t), (3, pI i), (4, pI (j + 1))]) rfl ?_
                    refine ih_58 _ ?_ (j + 1) m_15 ?_ rfl
                    · omega
                    · refine ⟨by omega, by omega, fun q a1 => by rw [← hF9 q a1, e_16]; funext b; exact mset_nk a1, fun k => ?_⟩
                      rw [e_16]
                      by_cases e : k = j.toNat
                      · subst e; rw [mset_eq, if_pos (by omega), h149, if_neg (by omega), hF9 11 (by decide), hT5 _ (by omega)]
                      · rw [mset_ne (fun q => e q.2), h149]; by_cases g : (k : Int) < j
                        · rw [if_pos g, if_pos (by omega)]
                        · rw [if_neg g, if_neg (by omega)]
              refine ok_lvp [1, 2, 3, 4, 0] (lv' := [(0, pR 0), (1, pI a), (2, pI t), (3, pI i), (4, pI 0)]) rfl ?_
              refine hL_58 _ 0 m_11 ?_ rfl
              exact ⟨by omega, by omega, fun q _ => by rw [hm5], fun k => by rw [if_neg (by omega), ← hm5, hfr5 14 (by decide) (by decide) (by decide)]⟩
            · refine ok_bipush F dX8_even_52 rfl ?_
              refine ok_iret F G dX8_even_54 ?_
              refine ⟨_, rfl, ?_, ?_⟩
              · exact ⟨(by rw [hfr 1 (by decide) (by decide) (by decide), hF 1 (by decide) (by decide) (by decide) (by decide)]), (by rw [hfr 3 (by decide) (by decide) (by decide), hF 3 (by decide) (by decide) (by decide) (by decide)]), (by rw [hfr 4 (by decide) (by decide) (by decide), hF 4 (by decide) (by decide) (by decide) (by decide)]), (by rw [hfr 5 (by decide) (by decide) (by decide), hF 5 (by decide) (by decide) (by decide) (by decide)]), (by rw [hfr 6 (by decide) (by decide) (by decide), hF 6 (by decide) (by decide) (by decide) (by decide)]), by rw [hfr 0 (by decide) (by decide) (by decide), hF 0 (by decide) (by decide) (by decide) (by decide)], by rw [hfr 0 (by decide) (by decide) (by decide), hF 0 (by decide) (by decide) (by decide) (by decide)], fun q hq => by rw [hfr q (by omega) (by omega) (by omega), hF q (by omega) (by omega) (by omega) (by omega)], by rw [hfr 0 (by decide) (by decide) (by decide), hF 0 (by decide) (by decide) (by decide) (by decide)]⟩
              · rw [if_pos (by omega), he, show (t - i).toNat = (t - (i + 1)).toNat + 1 by omega, evenF_s, if_neg (by omega)]
      refine ok_lvp [1, 2, 3, 0] (lv' := [(0, pR 0), (1, pI a), (2, pI t), (3, pI 0)]) rfl ?_
      refine hL_27 _ 0 m_3 ?_ rfl
      exact ⟨by omega, by omega, fun q _ _ _ h => gx q h, fun k hk => by rw [g14, tillW_at hk]; exact hTl k hk, by rw [g14, Int.sub_zero]⟩
    · refine ok_iconst F dX8_even_19 ?_
      refine ok_iret F G dX8_even_20 ?_
      exact ⟨_, rfl, Keep.rf _, by rw [if_neg (by omega)]⟩
