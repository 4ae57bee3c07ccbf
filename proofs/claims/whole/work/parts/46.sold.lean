/-! the class: sold and paid -/
theorem rdR_rng {tb : Nat → Int → Int} {v g r : Nat → Int} : ∀ {n : Nat} (s d : Int) {j : Nat}, (∀ i, i < n → 0 ≤ g i ∧ 0 ≤ r i) → j < n → -(r j) ≤ rdR tb v g r n s d j ∧ rdR tb v g r n s d j ≤ g j
  | 0, _, _, _, _, hj => by omega
  | n + 1, s, d, j, h, hj => by
    rw [rdR_s]
    by_cases e : j = n
    · subst e
      rw [if_pos rfl]
      have q := topZ_rng (fun z => decide (tb j (s - z * v j) = d - (z.natAbs : Int))) (g j + r j).toNat (g j)
      have := h j (by omega)
      have e2 : rdZ tb v g r j s d = topZ (fun z => decide (tb j (s - z * v j) = d - (z.natAbs : Int))) (g j + r j).toNat (g j) := rfl
      rw [e2]
      omega
    · rw [if_neg e]
      exact rdR_rng _ _ (fun i hi => h i (by omega)) (by omega)
/-- what settling a price comes to, and how many of each kind then go to the till -/
def stV (mem : Mem) (p : Int) : Int := stlT (mem 22) (mem 24) (mem 23) (mem 21 0).toNat p
def stD (mem : Mem) (p : Int) : Nat → Int := rdR (stlT (mem 22) (mem 24) (mem 23)) (mem 22) (mem 24) (mem 23) (mem 21 0).toNat p (stV mem p)
def stOk (mem : Mem) (p : Int) (k : Nat) : Prop := mem 23 k + stD mem p k < 100 ∧ mem 24 k - stD mem p k < 100
/-- what is above a price in the tray, and its change -/
def pyA (mem : Mem) (p : Int) : Int := sumN (fun k => mem 27 k * mem 22 k) (mem 21 0).toNat - p
def pyV (mem : Mem) (p : Int) : Int := fewT (fun i => (mem 22 i).toNat) (fun i => (mem 23 i + mem 27 i).toNat) (mem 21 0).toNat (pyA mem p).toNat
def pyD (mem : Mem) (p : Int) (k : Nat) : Int := (takR (fun i => (mem 22 i).toNat) (fun i => (mem 23 i + mem 27 i).toNat) (mem 21 0).toNat (pyA mem p).toNat k : Nat)
def pyOk (mem : Mem) (p : Int) (k : Nat) : Prop := mem 23 k + mem 27 k - pyD mem p k < 100 ∧ mem 24 k + pyD mem p k < 100
theorem dX7_sell_0 : decode cX7_sell 0 = .ok (.iload_n 1, 1) := by decide +kernel
theorem dX7_sell_1 : decode cX7_sell 1 = .ok (.invokestatic 127, 3) := by decide +kernel
theorem dX7_sell_4 : decode cX7_sell 4 = .ok (.ifCond .ne 5, 3) := by decide +kernel
theorem dX7_sell_7 : decode cX7_sell 7 = .ok (.iconst (-1), 1) := by decide +kernel
theorem dX7_sell_8 : decode cX7_sell 8 = .ok (.ireturn, 1) := by decide +kernel
theorem dX7_sell_9 : decode cX7_sell 9 = .ok (.aload_n 0, 1) := by decide +kernel
theorem dX7_sell_10 : decode cX7_sell 10 = .ok (.iload_n 1, 1) := by decide +kernel
theorem dX7_sell_11 : decode cX7_sell 11 = .ok (.invokevirtual 143, 3) := by decide +kernel
theorem dX7_sell_14 : decode cX7_sell 14 = .ok (.istore_n 2, 1) := by decide +kernel
theorem dX7_sell_15 : decode cX7_sell 15 = .ok (.iload_n 2, 1) := by decide +kernel
theorem dX7_sell_16 : decode cX7_sell 16 = .ok (.ifCond .ge 6, 3) := by decide +kernel
theorem dX7_sell_19 : decode cX7_sell 19 = .ok (.bipush (-2), 2) := by decide +kernel
theorem dX7_sell_21 : decode cX7_sell 21 = .ok (.ireturn, 1) := by decide +kernel
theorem dX7_sell_22 : decode cX7_sell 22 = .ok (.iconst 0, 1) := by decide +kernel
theorem dX7_sell_23 : decode cX7_sell 23 = .ok (.istore_n 3, 1) := by decide +kernel
theorem dX7_sell_24 : decode cX7_sell 24 = .ok (.iload_n 3, 1) := by decide +kernel
theorem dX7_sell_25 : decode cX7_sell 25 = .ok (.aload_n 0, 1) := by decide +kernel
theorem dX7_sell_26 : decode cX7_sell 26 = .ok (.getfield 10, 3) := by decide +kernel
theorem dX7_sell_29 : decode cX7_sell 29 = .ok (.getfield 103, 3) := by decide +kernel
theorem dX7_sell_32 : decode cX7_sell 32 = .ok (.if_icmp .ge 54, 3) := by decide +kernel
theorem dX7_sell_35 : decode cX7_sell 35 = .ok (.aload_n 0, 1) := by decide +kernel
theorem dX7_sell_36 : decode cX7_sell 36 = .ok (.getfield 10, 3) := by decide +kernel
theorem dX7_sell_39 : decode cX7_sell 39 = .ok (.getfield 133, 3) := by decide +kernel
theorem dX7_sell_42 : decode cX7_sell 42 = .ok (.iload_n 3, 1) := by decide +kernel
theorem dX7_sell_43 : decode cX7_sell 43 = .ok (.iaload, 1) := by decide +kernel
theorem dX7_sell_44 : decode cX7_sell 44 = .ok (.aload_n 0, 1) := by decide +kernel
theorem dX7_sell_45 : decode cX7_sell 45 = .ok (.getfield 68, 3) := by decide +kernel
theorem dX7_sell_48 : decode cX7_sell 48 = .ok (.iload_n 3, 1) := by decide +kernel
theorem dX7_sell_49 : decode cX7_sell 49 = .ok (.iaload, 1) := by decide +kernel
theorem dX7_sell_50 : decode cX7_sell 50 = .ok (.iadd, 1) := by decide +kernel
theorem dX7_sell_51 : decode cX7_sell 51 = .ok (.bipush 100, 2) := by decide +kernel
theorem dX7_sell_53 : decode cX7_sell 53 = .ok (.if_icmp .ge 24, 3) := by decide +kernel
theorem dX7_sell_56 : decode cX7_sell 56 = .ok (.aload_n 0, 1) := by decide +kernel
theorem dX7_sell_57 : decode cX7_sell 57 = .ok (.getfield 10, 3) := by decide +kernel
theorem dX7_sell_60 : decode cX7_sell 60 = .ok (.getfield 117, 3) := by decide +kernel
theorem dX7_sell_63 : decode cX7_sell 63 = .ok (.iload_n 3, 1) := by decide +kernel
theorem dX7_sell_64 : decode cX7_sell 64 = .ok (.iaload, 1) := by decide +kernel
theorem dX7_sell_65 : decode cX7_sell 65 = .ok (.aload_n 0, 1) := by decide +kernel
theorem dX7_sell_66 : decode cX7_sell 66 = .ok (.getfield 68, 3) := by decide +kernel
theorem dX7_sell_69 : decode cX7_sell 69 = .ok (.iload_n 3, 1) := by decide +kernel
theorem dX7_sell_70 : decode cX7_sell 70 = .ok (.iaload, 1) := by decide +kernel
theorem dX7_sell_71 : decode cX7_sell 71 = .ok (.isub, 1) := by decide +kernel
theorem dX7_sell_72 : decode cX7_sell 72 = .ok (.bipush 100, 2) := by decide +kernel
theorem dX7_sell_74 : decode cX7_sell 74 = .ok (.if_icmp .lt 6, 3) := by decide +kernel
theorem dX7_sell_77 : decode cX7_sell 77 = .ok (.bipush (-3), 2) := by decide +kernel
theorem dX7_sell_79 : decode cX7_sell 79 = .ok (.ireturn, 1) := by decide +kernel
theorem dX7_sell_80 : decode cX7_sell 80 = .ok (.iinc 3 1, 3) := by decide +kernel
theorem dX7_sell_83 : decode cX7_sell 83 = .ok (.goto (-59), 3) := by decide +kernel
theorem dX7_sell_86 : decode cX7_sell 86 = .ok (.aload_n 0, 1) := by decide +kernel
theorem dX7_sell_87 : decode cX7_sell 87 = .ok (.invokevirtual 114, 3) := by decide +kernel
theorem dX7_sell_90 : decode cX7_sell 90 = .ok (.iconst 0, 1) := by decide +kernel
theorem dX7_sell_91 : decode cX7_sell 91 = .ok (.istore_n 3, 1) := by decide +kernel
theorem dX7_sell_92 : decode cX7_sell 92 = .ok (.iload_n 3, 1) := by decide +kernel
theorem dX7_sell_93 : decode cX7_sell 93 = .ok (.aload_n 0, 1) := by decide +kernel
theorem dX7_sell_94 : decode cX7_sell 94 = .ok (.getfield 10, 3) := by decide +kernel
theorem dX7_sell_97 : decode cX7_sell 97 = .ok (.getfield 103, 3) := by decide +kernel
theorem dX7_sell_100 : decode cX7_sell 100 = .ok (.if_icmp .ge 45, 3) := by decide +kernel
theorem dX7_sell_103 : decode cX7_sell 103 = .ok (.aload_n 0, 1) := by decide +kernel
theorem dX7_sell_104 : decode cX7_sell 104 = .ok (.getfield 10, 3) := by decide +kernel
theorem dX7_sell_107 : decode cX7_sell 107 = .ok (.getfield 133, 3) := by decide +kernel
theorem dX7_sell_110 : decode cX7_sell 110 = .ok (.iload_n 3, 1) := by decide +kernel
theorem dX7_sell_111 : decode cX7_sell 111 = .ok (.dup2, 1) := by decide +kernel
theorem dX7_sell_112 : decode cX7_sell 112 = .ok (.iaload, 1) := by decide +kernel
theorem dX7_sell_113 : decode cX7_sell 113 = .ok (.aload_n 0, 1) := by decide +kernel
theorem dX7_sell_114 : decode cX7_sell 114 = .ok (.getfield 68, 3) := by decide +kernel
theorem dX7_sell_117 : decode cX7_sell 117 = .ok (.iload_n 3, 1) := by decide +kernel
theorem dX7_sell_118 : decode cX7_sell 118 = .ok (.iaload, 1) := by decide +kernel
theorem dX7_sell_119 : decode cX7_sell 119 = .ok (.iadd, 1) := by decide +kernel
theorem dX7_sell_120 : decode cX7_sell 120 = .ok (.iastore, 1) := by decide +kernel
theorem dX7_sell_121 : decode cX7_sell 121 = .ok (.aload_n 0, 1) := by decide +kernel
theorem dX7_sell_122 : decode cX7_sell 122 = .ok (.getfield 10, 3) := by decide +kernel
theorem dX7_sell_125 : decode cX7_sell 125 = .ok (.getfield 117, 3) := by decide +kernel
theorem dX7_sell_128 : decode cX7_sell 128 = .ok (.iload_n 3, 1) := by decide +kernel
theorem dX7_sell_129 : decode cX7_sell 129 = .ok (.dup2, 1) := by decide +kernel
theorem dX7_sell_130 : decode cX7_sell 130 = .ok (.iaload, 1) := by decide +kernel
theorem dX7_sell_131 : decode cX7_sell 131 = .ok (.aload_n 0, 1) := by decide +kernel
theorem dX7_sell_132 : decode cX7_sell 132 = .ok (.getfield 68, 3) := by decide +kernel
theorem dX7_sell_135 : decode cX7_sell 135 = .ok (.iload_n 3, 1) := by decide +kernel
theorem dX7_sell_136 : decode cX7_sell 136 = .ok (.iaload, 1) := by decide +kernel
theorem dX7_sell_137 : decode cX7_sell 137 = .ok (.isub, 1) := by decide +kernel
theorem dX7_sell_138 : decode cX7_sell 138 = .ok (.iastore, 1) := by decide +kernel
theorem dX7_sell_139 : decode cX7_sell 139 = .ok (.iinc 3 1, 3) := by decide +kernel
theorem dX7_sell_142 : decode cX7_sell 142 = .ok (.goto (-50), 3) := by decide +kernel
theorem dX7_sell_145 : decode cX7_sell 145 = .ok (.iload_n 2, 1) := by decide +kernel
theorem dX7_sell_146 : decode cX7_sell 146 = .ok (.ireturn, 1) := by decide +kernel
set_option maxHeartbeats 4000000 in
set_option maxRecDepth 100000 in
theorem m_X7_sell (l : Launch) (p : Int) (mem : Mem) (hp : i32 p) (hCI : CI mem) (hN : 0 ≤ mem 21 0 ∧ mem 21 0 ≤ 8) (hV : ∀ i : Nat, i < 8 → 0 ≤ mem 22 i ∧ mem 22 i ≤ 500) (hV1 : ∀ i : Nat, (i : Int) < mem 21 0 → 1 ≤ mem 22 i) (hTl : ∀ k : Nat, k < 8 → 0 ≤ mem 23 k ∧ mem 23 k ≤ 99) (hPu : ∀ k : Nat, k < 8 → 0 ≤ mem 24 k ∧ mem 24 k ≤ 99) (hPn : 0 ≤ mem 20 5 ∧ mem 20 5 ≤ 9) (hPa : 0 ≤ mem 20 6 ∧ mem 20 6 ≤ 10) : Ret shp l yX7_sell cX7_sell 4 (some .int) 5 [pR 20, pI p] mem (fun rv mv => ∃ z, rv = some (pI z) ∧ ((¬ (1 ≤ p ∧ p ≤ 1000) ∧ z = -1 ∨ (1 ≤ p ∧ p ≤ 1000) ∧ ¬ stV mem p < 1000000 ∧ z = -2 ∨ (1 ≤ p ∧ p ≤ 1000) ∧ stV mem p < 1000000 ∧ (∃ k : Nat, (k : Int) < mem 21 0 ∧ ¬ stOk mem p k) ∧ z = -3) ∧ KeepC mem mv ∨ (1 ≤ p ∧ p ≤ 1000) ∧ stV mem p < 1000000 ∧ (∀ k : Nat, (k : Int) < mem 21 0 → stOk mem p k) ∧ z = stV mem p ∧ CI mv ∧ (∃ mB, (∀ c, c < 179 → mB c = mem c) ∧ ∀ c, c < 179 → c ≠ 23 → c ≠ 24 → mv c = remM mB c) ∧ (∀ k : Nat, mv 23 k = if (k : Int) < mem 21 0 then mem 23 k + stD mem p k else mem 23 k) ∧ ∀ k : Nat, mv 24 k = if (k : Int) < mem 21 0 then mem 24 k - stD mem p k else mem 24 k)) := by
  refine ret_of (by decide +kernel) (Nat.le_of_ble_eq_true rfl) (fun X hX F G => ?_)
  show Ok shp X 4 0 [(0, pR 20), (1, pI p)] [] mem
  refine ok_iload_n F dX7_sell_0 1 rfl ?_
  refine ok_calls F [pI p] dX7_sell_1 kM_X7_isPrice kS_X7_isPrice kL_X7_127 rfl (by decide) (Nat.le_of_ble_eq_true rfl) rfl (m_X7_isPrice _ p mem (by omega)) ?_
  rintro _ _ ⟨rfl, rfl⟩
  refine ok_if_ne F 9 dX7_sell_4 (by decide) (by omega) (fun c_1 => ?_) (fun c_1 => ?_)
  · refine ok_aload_n F dX7_sell_9 0 rfl ?_
    refine ok_iload_n F dX7_sell_10 1 rfl ?_
    refine ok_callv F [pI p] dX7_sell_11 kM_X7_findSettling kI_X7_findSettling kV_X7_findSettling kL_X7_143 (ci := 7) rfl sh_20 rfl (by decide) (Nat.le_of_ble_eq_true rfl) rfl (m_X7_findSettling _ p mem (by omega) (hCI) (by omega) (hV) (hV1) (hTl) (hPu)) ?_
    rintro _ m_3 ⟨z_2, rfl, r_4⟩
    obtain ⟨k1, k2, k3⟩ := id r_4
    obtain ⟨mB, hmB⟩ : ∃ x, x = m_3 := ⟨_, rfl⟩
    have hk0 := k1
    have hkB : KeepC mem mB := by rw [hmB]; exact k1
    have kb : 0 ≤ stV mem p ∧ stV mem p ≤ 1000000 := stlT_bd (mem 22) (mem 24) (mem 23) (mem 21 0).toNat p
    have k2b : z_2 = if stV mem p < 1000000 then stV mem p else -1 := k2
    have hz0 : stV mem p < 1000000 → z_2 = stV mem p := fun q => by rw [k2b, if_pos q]
    have hrg : ∀ k : Nat, (k : Int) < mem 21 0 → -(mem 23 k) ≤ stD mem p k ∧ stD mem p k ≤ mem 24 k := fun k hk => rdR_rng _ _ (fun i hi => ⟨(hPu i (by omega)).1, (hTl i (by omega)).1⟩) (by omega)
    refine ok_istore_n (lv' := [(2, pI z_2), (0, pR 20), (1, pI p)]) F dX7_sell_14 (by decide) rfl ?_
    refine ok_iload_n F dX7_sell_15 0 rfl ?_
    refine ok_if_ge F 22 dX7_sell_16 (by decide) (by omega) (fun c_5 => ?_) (fun c_5 => ?_)
    · have hT : stV mem p < 1000000 := by
        by_cases q : stV mem p < 1000000
        · exact q
        · rw [if_neg q] at k2b; omega
      have hz := hz0 hT
      have hD : ∀ j : Nat, (j : Int) < mem 21 0 → mB 212 j = stD mem p j := fun j hj => by rw [hmB, k3 hT j (by omega), if_pos hj]; rfl
      refine ok_iconst F dX7_sell_22 ?_
      refine ok_istore_n (lv' := [(3, pI 0), (2, pI z_2), (0, pR 20), (1, pI p)]) F dX7_sell_23 (by decide) rfl ?_
      have hL_24 : ∀ (n_24 : Nat) (k : Int), (0 ≤ k ∧ k ≤ mem 21 0 ∧ ∀ i : Nat, (i : Int) < k → stOk mem p i) → (mem 21 0 - k).toNat = n_24 → Ok shp X 4 24 [(0, pR 20), (1, pI p), (2, pI z_2), (3, pI k)] [] m_3 := by
        intro n_24
        induction n_24 using Nat.strongRecOn with
        | _ n_24 ih_24 =>
          intro k hI_24 hn_24
          refine ok_iload_n F dX7_sell_24 3 rfl ?_
          refine ok_aload_n F dX7_sell_25 0 rfl ?_
          refine ok_getr F dX7_sell_26 kF_X7_10 sh_20 rfl ?_
          refine ok_getf (v := mem 21 0) F dX7_sell_29 kF_X7_103 sh_21 rfl (by rw [(r_4.1.1 21 (by decide))] <;> rfl) ?_
          refine ok_icmp_ge F 86 dX7_sell_32 (by decide) (by omega) (by omega) (fun c_6 => ?_) (fun c_6 => ?_)
          · refine ok_aload_n F dX7_sell_86 0 rfl ?_
            refine ok_callv F [] dX7_sell_87 kM_X7_remember kI_X7_remember kV_X7_remember kL_X7_114 (ci := 7) rfl sh_20 rfl (by decide) (Nat.le_of_ble_eq_true rfl) rfl (m_X7_remember _ m_3 (by rw [hk0.1 20 (by decide)]; exact hPn) (by rw [hk0.1 20 (by decide)]; exact hPa)) ?_
            rintro _ m_7 ⟨rfl, e_8⟩
            have hrm : m_7 = remM mB := by rw [hmB]; exact e_8
            have hPB : 0 ≤ mB 20 5 ∧ mB 20 5 ≤ 9 := by rw [hkB.1 20 (by decide)]; exact hPn
            obtain ⟨m9, hm9⟩ : ∃ x, x = m_7 := ⟨_, rfl⟩
            rw [← hm9] at hrm
            have rr : ∀ a, a ≠ 20 → (a < 43 ∨ 153 ≤ a) → m9 a = mB a := fun a a1 a2 => remM_at hrm hPB ⟨a1, a2⟩
            refine ok_iconst F dX7_sell_90 ?_
            refine ok_istore_n (lv' := [(3, pI 0), (0, pR 20), (1, pI p), (2, pI z_2)]) F dX7_sell_91 (by decide) rfl ?_
            have hL_92 : ∀ (n_92 : Nat) (j : Int) (m : Mem), (0 ≤ j ∧ j ≤ mem 21 0 ∧ (∀ c, c ≠ 23 → c ≠ 24 → m c = m9 c) ∧ (∀ k : Nat, m 23 k = if (k : Int) < j then mem 23 k + stD mem p k else mem 23 k) ∧ ∀ k : Nat, m 24 k = if (k : Int) < j then mem 24 k - stD mem p k else mem 24 k) → (mem 21 0 - j).toNat = n_92 → Ok shp X 4 92 [(0, pR 20), (1, pI p), (2, pI z_2), (3, pI j)] [] m := by
              intro n_92
              induction n_92 using Nat.strongRecOn with
              | _ n_92 ih_92 =>
                intro j m hI_92 hn_92
                obtain ⟨hj0, hj1, hF, h23, h24⟩ := hI_92
                have hN0 : m 21 0 = mem 21 0 := by rw [hF 21 (by decide) (by decide), rr 21 (by decide) (by decide), hkB.1 21 (by decide)]
                have h212 : ∀ i : Nat, (i : Int) < mem 21 0 → m 212 i = stD mem p i := fun i hi => by rw [hF 212 (by decide) (by decide), rr 212 (by decide) (by decide)]; exact hD i hi
                refine ok_iload_n F dX7_sell_92 3 rfl ?_
                refine ok_aload_n F dX7_sell_93 0 rfl ?_
                refine ok_getr F dX7_sell_94 kF_X7_10 sh_20 rfl ?_
                refine ok_getf (v := m 21 0) F dX7_sell_97 kF_X7_103 sh_21 rfl rfl ?_
                refine ok_icmp_ge F 145 dX7_sell_100 (by decide) (by omega) (by omega) (fun c_9 => ?_) (fun c_9 => ?_)
                · refine ok_iload_n F dX7_sell_145 2 rfl ?_
                  refine ok_iret F G dX7_sell_146 ?_
                  refine ⟨_, rfl, Or.inr ⟨by omega, hT, fun i hi => hI_24.2.2 i (by omega), hz, hkB.2.congr (fun c c1 c2 _ _ => by rw [hF c (by omega) (by omega), rr c (by omega) (by omega)]), ⟨mB, hkB.1, fun c c1 c2 c3 => by rw [hF c c2 c3, hrm]⟩, fun k => ?_, fun k => ?_⟩⟩
                  · rw [h23, show j = mem 21 0 by omega]
                  · rw [h24, show j = mem 21 0 by omega]
                · have a1 := hTl j.toNat (by omega)
                  have a2 := hPu j.toNat (by omega)
                  have a3 := hrg j.toNat (by omega)
                  have b1 := h23 j.toNat
                  have b2 := h24 j.toNat
                  rw [if_neg (by omega)] at b1 b2
                  have b3 := h212 j.toNat (by omega)
                  refine ok_aload_n F dX7_sell_103 0 rfl ?_
                  refine ok_getr F dX7_sell_104 kF_X7_10 sh_20 rfl ?_
                  refine ok_getr F dX7_sell_107 kF_X7_133 sh_21 rfl ?_
                  refine ok_iload_n F dX7_sell_110 3 rfl ?_
                  refine ok_dup2 F dX7_sell_111 rfl rfl ?_
                  refine ok_iald (v := m 23 j.toNat) F dX7_sell_112 sh_23 (by first | decide | assumption) (by omega) (by omega) rfl ?_
                  refine ok_aload_n F dX7_sell_113 0 rfl ?_
                  refine ok_getr F dX7_sell_114 kF_X7_68 sh_20 rfl ?_
                  refine ok_iload_n F dX7_sell_117 3 rfl ?_
                  refine ok_iald (v := m 212 j.toNat) F dX7_sell_118 sh_212 (by first | decide | assumption) (by omega) (by omega) rfl ?_
                  refine ok_iadd F dX7_sell_119 ?_
                  refine ok_iast F dX7_sell_120 sh_23 (by first | decide | assumption) (by omega) (by omega) (fun m_10 e_11 => ?_)
                  refine ok_aload_n F dX7_sell_121 0 rfl ?_
                  refine ok_getr F dX7_sell_122 kF_X7_10 sh_20 rfl ?_
                  refine ok_getr F dX7_sell_125 kF_X7_117 sh_21 rfl ?_
                  refine ok_iload_n F dX7_sell_128 3 rfl ?_
                  refine ok_dup2 F dX7_sell_129 rfl rfl ?_
                  refine ok_iald (v := m 24 j.toNat) F dX7_sell_130 sh_24 (by first | decide | assumption) (by omega) (by omega) (by rw [e_11, mset_nk (by decide)] <;> rfl) ?_
                  refine ok_aload_n F dX7_sell_131 0 rfl ?_
                  refine ok_getr F dX7_sell_132 kF_X7_68 sh_20 rfl ?_
                  refine ok_iload_n F dX7_sell_135 3 rfl ?_
                  refine ok_iald (v := m 212 j.toNat) F dX7_sell_136 sh_212 (by first | decide | assumption) (by omega) (by omega) (by rw [e_11, mset_nk (by decide)] <;> rfl) ?_
                  refine ok_isub F dX7_sell_137 ?_
                  refine ok_iast F dX7_sell_138 sh_24 (by first | decide | assumption) (by omega) (by omega) (fun m_12 e_13 => ?_)
                  refine ok_iinc (lv' := [(3, pI (j + 1)), (0, pR 20), (1, pI p), (2, pI z_2)]) F dX7_sell_139 3 rfl (by decide) rfl ?_
                  refine ok_goto F 92 dX7_sell_142 (by decide) ?_
                  refine ok_lvp [1, 2, 3, 0] (lv' := [(0, pR 20), (1, pI p), (2, pI z_2), (3, pI (j + 1))]) rfl ?_
                  refine ih_92 _ ?_ (j + 1) m_12 ?_ rfl
                  · omega
                  · refine ⟨by omega, by omega, fun c c1 c2 => by rw [e_13, e_11, mset_nka c2, mset_nka c1]; exact hF c c1 c2, fun k => ?_, fun k => ?_⟩
                    · rw [e_13, e_11, mset_nka (by decide)]
                      by_cases e : k = j.toNat
                      · subst e; rw [mset_eq, if_pos (by omega)]; omega
                      · rw [mset_ne (fun q => e q.2), h23]; by_cases g : (k : Int) < j
                        · rw [if_pos g, if_pos (by omega)]
                        · rw [if_neg g, if_neg (by omega)]
                    · rw [e_13, e_11]
                      by_cases e : k = j.toNat
                      · subst e; rw [mset_eq, if_pos (by omega)]; omega
                      · rw [mset_ne (fun q => e q.2), mset_nka (by decide), h24]; by_cases g : (k : Int) < j
                        · rw [if_pos g, if_pos (by omega)]
                        · rw [if_neg g, if_neg (by omega)]
            refine ok_lvp [1, 2, 3, 0] (lv' := [(0, pR 20), (1, pI p), (2, pI z_2), (3, pI 0)]) rfl ?_
            refine hL_92 _ 0 m_7 ?_ rfl
            rw [← hm9]
            exact ⟨by omega, by omega, fun _ _ _ => rfl, fun k => by rw [if_neg (by omega), rr 23 (by decide) (by decide), hkB.1 23 (by decide)], fun k => by rw [if_neg (by omega), rr 24 (by decide) (by decide), hkB.1 24 (by decide)]⟩
          · have a1 := hTl k.toNat (by omega)
            have a2 := hPu k.toNat (by omega)
            have a3 := hD k.toNat (by omega)
            have a4 := hrg k.toNat (by omega)
            rw [hmB] at a3
            refine ok_aload_n F dX7_sell_35 0 rfl ?_
            refine ok_getr F dX7_sell_36 kF_X7_10 sh_20 rfl ?_
            refine ok_getr F dX7_sell_39 kF_X7_133 sh_21 rfl ?_
            refine ok_iload_n F dX7_sell_42 3 rfl ?_
            refine ok_iald (v := mem 23 k.toNat) F dX7_sell_43 sh_23 (by first | decide | assumption) (by omega) (by omega) (by rw [(r_4.1.1 23 (by decide))] <;> rfl) ?_
            refine ok_aload_n F dX7_sell_44 0 rfl ?_
            refine ok_getr F dX7_sell_45 kF_X7_68 sh_20 rfl ?_
            refine ok_iload_n F dX7_sell_48 3 rfl ?_
            refine ok_iald (v := m_3 212 k.toNat) F dX7_sell_49 sh_212 (by first | decide | assumption) (by omega) (by omega) rfl ?_
            refine ok_iadd F dX7_sell_50 ?_
            refine ok_bipush F dX7_sell_51 rfl ?_
            refine ok_icmp_ge F 77 dX7_sell_53 (by decide) (by omega) (by omega) (fun c_14 => ?_) (fun c_14 => ?_)
            · refine ok_bipush F dX7_sell_77 rfl ?_
              refine ok_iret F G dX7_sell_79 ?_
              exact ⟨_, rfl, Or.inl ⟨Or.inr (Or.inr ⟨by omega, hT, ⟨k.toNat, by omega, fun q => by have q1 := q.1; have q2 := q.2; omega⟩, rfl⟩), hk0⟩⟩
            · refine ok_aload_n F dX7_sell_56 0 rfl ?_
              refine ok_getr F dX7_sell_57 kF_X7_10 sh_20 rfl ?_
              refine ok_getr F dX7_sell_60 kF_X7_117 sh_21 rfl ?_
              refine ok_iload_n F dX7_sell_63 3 rfl ?_
              refine ok_iald (v := mem 24 k.toNat) F dX7_sell_64 sh_24 (by first | decide | assumption) (by omega) (by omega) (by rw [(r_4.1.1 24 (by decide))] <;> rfl) ?_
              refine ok_aload_n F dX7_sell_65 0 rfl ?_
              refine ok_getr F dX7_sell_66 kF_X7_68 sh_20 rfl ?_
              refine ok_iload_n F dX7_sell_69 3 rfl ?_
              refine ok_iald (v := m_3 212 k.toNat) F dX7_sell_70 sh_212 (by first | decide | assumption) (by omega) (by omega) rfl ?_
              refine ok_isub F dX7_sell_71 ?_
              refine ok_bipush F dX7_sell_72 rfl ?_
              refine ok_icmp_lt F 80 dX7_sell_74 (by decide) (by omega) (by omega) (fun c_15 => ?_) (fun c_15 => ?_)
              · refine ok_iinc (lv' := [(3, pI (k + 1)), (0, pR 20), (1, pI p), (2, pI z_2)]) F dX7_sell_80 3 rfl (by decide) rfl ?_
                refine ok_goto F 24 dX7_sell_83 (by decide) ?_
                refine ok_lvp [1, 2, 3, 0] (lv' := [(0, pR 20), (1, pI p), (2, pI z_2), (3, pI (k + 1))]) rfl ?_
                refine ih_24 _ ?_ (k + 1) ?_ rfl
                · omega
                · refine ⟨by omega, by omega, fun i hi => ?_⟩
                  by_cases e : (i : Int) < k
                  · exact hI_24.2.2 i e
                  · rw [show i = k.toNat by omega]; exact ⟨by omega, by omega⟩
              · refine ok_bipush F dX7_sell_77 rfl ?_
                refine ok_iret F G dX7_sell_79 ?_
                exact ⟨_, rfl, Or.inl ⟨Or.inr (Or.inr ⟨by omega, hT, ⟨k.toNat, by omega, fun q => by have q1 := q.1; have q2 := q.2; omega⟩, rfl⟩), hk0⟩⟩
      refine ok_lvp [2, 3, 1, 0] (lv' := [(0, pR 20), (1, pI p), (2, pI z_2), (3, pI 0)]) rfl ?_
      refine hL_24 _ 0 ?_ rfl
      exact ⟨by omega, by omega, fun i hi => by omega⟩
    · refine ok_bipush F dX7_sell_19 rfl ?_
      refine ok_iret F G dX7_sell_21 ?_
      refine ⟨_, rfl, Or.inl ⟨Or.inr (Or.inl ⟨by omega, fun q => ?_, rfl⟩), k1⟩⟩
      rw [if_pos q] at k2b
      omega
  · refine ok_iconst F dX7_sell_7 ?_
    refine ok_iret F G dX7_sell_8 ?_
    exact ⟨_, rfl, Or.inl ⟨Or.inl ⟨by omega, rfl⟩, KeepC.rf hCI⟩⟩
theorem dX7_pay_0 : decode cX7_pay 0 = .ok (.iload_n 1, 1) := by decide +kernel
theorem dX7_pay_1 : decode cX7_pay 1 = .ok (.invokestatic 127, 3) := by decide +kernel
theorem dX7_pay_4 : decode cX7_pay 4 = .ok (.ifCond .ne 5, 3) := by decide +kernel
theorem dX7_pay_7 : decode cX7_pay 7 = .ok (.iconst (-1), 1) := by decide +kernel
theorem dX7_pay_8 : decode cX7_pay 8 = .ok (.ireturn, 1) := by decide +kernel
theorem dX7_pay_9 : decode cX7_pay 9 = .ok (.aload_n 0, 1) := by decide +kernel
theorem dX7_pay_10 : decode cX7_pay 10 = .ok (.getfield 10, 3) := by decide +kernel
theorem dX7_pay_13 : decode cX7_pay 13 = .ok (.aload_n 0, 1) := by decide +kernel
theorem dX7_pay_14 : decode cX7_pay 14 = .ok (.getfield 10, 3) := by decide +kernel
theorem dX7_pay_17 : decode cX7_pay 17 = .ok (.getfield 120, 3) := by decide +kernel
theorem dX7_pay_20 : decode cX7_pay 20 = .ok (.invokevirtual 130, 3) := by decide +kernel
theorem dX7_pay_23 : decode cX7_pay 23 = .ok (.iload_n 1, 1) := by decide +kernel
theorem dX7_pay_24 : decode cX7_pay 24 = .ok (.isub, 1) := by decide +kernel
theorem dX7_pay_25 : decode cX7_pay 25 = .ok (.istore_n 2, 1) := by decide +kernel
theorem dX7_pay_26 : decode cX7_pay 26 = .ok (.iload_n 2, 1) := by decide +kernel
theorem dX7_pay_27 : decode cX7_pay 27 = .ok (.ifCond .ge 6, 3) := by decide +kernel
theorem dX7_pay_30 : decode cX7_pay 30 = .ok (.bipush (-2), 2) := by decide +kernel
theorem dX7_pay_32 : decode cX7_pay 32 = .ok (.ireturn, 1) := by decide +kernel
theorem dX7_pay_33 : decode cX7_pay 33 = .ok (.iconst 0, 1) := by decide +kernel
theorem dX7_pay_34 : decode cX7_pay 34 = .ok (.istore_n 3, 1) := by decide +kernel
theorem dX7_pay_35 : decode cX7_pay 35 = .ok (.iload_n 3, 1) := by decide +kernel
theorem dX7_pay_36 : decode cX7_pay 36 = .ok (.aload_n 0, 1) := by decide +kernel
theorem dX7_pay_37 : decode cX7_pay 37 = .ok (.getfield 10, 3) := by decide +kernel
theorem dX7_pay_40 : decode cX7_pay 40 = .ok (.getfield 103, 3) := by decide +kernel
theorem dX7_pay_43 : decode cX7_pay 43 = .ok (.if_icmp .ge 34, 3) := by decide +kernel
theorem dX7_pay_46 : decode cX7_pay 46 = .ok (.aload_n 0, 1) := by decide +kernel
theorem dX7_pay_47 : decode cX7_pay 47 = .ok (.getfield 65, 3) := by decide +kernel
theorem dX7_pay_50 : decode cX7_pay 50 = .ok (.iload_n 3, 1) := by decide +kernel
theorem dX7_pay_51 : decode cX7_pay 51 = .ok (.aload_n 0, 1) := by decide +kernel
theorem dX7_pay_52 : decode cX7_pay 52 = .ok (.getfield 10, 3) := by decide +kernel
theorem dX7_pay_55 : decode cX7_pay 55 = .ok (.getfield 133, 3) := by decide +kernel
theorem dX7_pay_58 : decode cX7_pay 58 = .ok (.iload_n 3, 1) := by decide +kernel
theorem dX7_pay_59 : decode cX7_pay 59 = .ok (.iaload, 1) := by decide +kernel
theorem dX7_pay_60 : decode cX7_pay 60 = .ok (.aload_n 0, 1) := by decide +kernel
theorem dX7_pay_61 : decode cX7_pay 61 = .ok (.getfield 10, 3) := by decide +kernel
theorem dX7_pay_64 : decode cX7_pay 64 = .ok (.getfield 120, 3) := by decide +kernel
theorem dX7_pay_67 : decode cX7_pay 67 = .ok (.iload_n 3, 1) := by decide +kernel
theorem dX7_pay_68 : decode cX7_pay 68 = .ok (.iaload, 1) := by decide +kernel
theorem dX7_pay_69 : decode cX7_pay 69 = .ok (.iadd, 1) := by decide +kernel
theorem dX7_pay_70 : decode cX7_pay 70 = .ok (.iastore, 1) := by decide +kernel
theorem dX7_pay_71 : decode cX7_pay 71 = .ok (.iinc 3 1, 3) := by decide +kernel
theorem dX7_pay_74 : decode cX7_pay 74 = .ok (.goto (-39), 3) := by decide +kernel
theorem dX7_pay_77 : decode cX7_pay 77 = .ok (.aload_n 0, 1) := by decide +kernel
theorem dX7_pay_78 : decode cX7_pay 78 = .ok (.getfield 46, 3) := by decide +kernel
theorem dX7_pay_81 : decode cX7_pay 81 = .ok (.aload_n 0, 1) := by decide +kernel
theorem dX7_pay_82 : decode cX7_pay 82 = .ok (.getfield 10, 3) := by decide +kernel
theorem dX7_pay_85 : decode cX7_pay 85 = .ok (.aload_n 0, 1) := by decide +kernel
theorem dX7_pay_86 : decode cX7_pay 86 = .ok (.getfield 65, 3) := by decide +kernel
theorem dX7_pay_89 : decode cX7_pay 89 = .ok (.iload_n 2, 1) := by decide +kernel
theorem dX7_pay_90 : decode cX7_pay 90 = .ok (.invokevirtual 136, 3) := by decide +kernel
theorem dX7_pay_93 : decode cX7_pay 93 = .ok (.istore_n 3, 1) := by decide +kernel
theorem dX7_pay_94 : decode cX7_pay 94 = .ok (.iload_n 3, 1) := by decide +kernel
theorem dX7_pay_95 : decode cX7_pay 95 = .ok (.ifCond .ge 6, 3) := by decide +kernel
theorem dX7_pay_98 : decode cX7_pay 98 = .ok (.bipush (-3), 2) := by decide +kernel
theorem dX7_pay_100 : decode cX7_pay 100 = .ok (.ireturn, 1) := by decide +kernel
theorem dX7_pay_101 : decode cX7_pay 101 = .ok (.iconst 0, 1) := by decide +kernel
theorem dX7_pay_102 : decode cX7_pay 102 = .ok (.istore 4, 2) := by decide +kernel
theorem dX7_pay_104 : decode cX7_pay 104 = .ok (.iload 4, 2) := by decide +kernel
theorem dX7_pay_106 : decode cX7_pay 106 = .ok (.aload_n 0, 1) := by decide +kernel
theorem dX7_pay_107 : decode cX7_pay 107 = .ok (.getfield 10, 3) := by decide +kernel
theorem dX7_pay_110 : decode cX7_pay 110 = .ok (.getfield 103, 3) := by decide +kernel
theorem dX7_pay_113 : decode cX7_pay 113 = .ok (.if_icmp .ge 57, 3) := by decide +kernel
theorem dX7_pay_116 : decode cX7_pay 116 = .ok (.aload_n 0, 1) := by decide +kernel
theorem dX7_pay_117 : decode cX7_pay 117 = .ok (.getfield 46, 3) := by decide +kernel
theorem dX7_pay_120 : decode cX7_pay 120 = .ok (.getfield 140, 3) := by decide +kernel
theorem dX7_pay_123 : decode cX7_pay 123 = .ok (.iload 4, 2) := by decide +kernel
theorem dX7_pay_125 : decode cX7_pay 125 = .ok (.iaload, 1) := by decide +kernel
theorem dX7_pay_126 : decode cX7_pay 126 = .ok (.istore 5, 2) := by decide +kernel
theorem dX7_pay_128 : decode cX7_pay 128 = .ok (.aload_n 0, 1) := by decide +kernel
theorem dX7_pay_129 : decode cX7_pay 129 = .ok (.getfield 65, 3) := by decide +kernel
theorem dX7_pay_132 : decode cX7_pay 132 = .ok (.iload 4, 2) := by decide +kernel
theorem dX7_pay_134 : decode cX7_pay 134 = .ok (.iaload, 1) := by decide +kernel
theorem dX7_pay_135 : decode cX7_pay 135 = .ok (.iload 5, 2) := by decide +kernel
theorem dX7_pay_137 : decode cX7_pay 137 = .ok (.isub, 1) := by decide +kernel
theorem dX7_pay_138 : decode cX7_pay 138 = .ok (.bipush 100, 2) := by decide +kernel
theorem dX7_pay_140 : decode cX7_pay 140 = .ok (.if_icmp .ge 21, 3) := by decide +kernel
theorem dX7_pay_143 : decode cX7_pay 143 = .ok (.aload_n 0, 1) := by decide +kernel
theorem dX7_pay_144 : decode cX7_pay 144 = .ok (.getfield 10, 3) := by decide +kernel
theorem dX7_pay_147 : decode cX7_pay 147 = .ok (.getfield 117, 3) := by decide +kernel
theorem dX7_pay_150 : decode cX7_pay 150 = .ok (.iload 4, 2) := by decide +kernel
theorem dX7_pay_152 : decode cX7_pay 152 = .ok (.iaload, 1) := by decide +kernel
theorem dX7_pay_153 : decode cX7_pay 153 = .ok (.iload 5, 2) := by decide +kernel
theorem dX7_pay_155 : decode cX7_pay 155 = .ok (.iadd, 1) := by decide +kernel
theorem dX7_pay_156 : decode cX7_pay 156 = .ok (.bipush 100, 2) := by decide +kernel
theorem dX7_pay_158 : decode cX7_pay 158 = .ok (.if_icmp .lt 6, 3) := by decide +kernel
theorem dX7_pay_161 : decode cX7_pay 161 = .ok (.bipush (-4), 2) := by decide +kernel
theorem dX7_pay_163 : decode cX7_pay 163 = .ok (.ireturn, 1) := by decide +kernel
theorem dX7_pay_164 : decode cX7_pay 164 = .ok (.iinc 4 1, 3) := by decide +kernel
theorem dX7_pay_167 : decode cX7_pay 167 = .ok (.goto (-63), 3) := by decide +kernel
theorem dX7_pay_170 : decode cX7_pay 170 = .ok (.aload_n 0, 1) := by decide +kernel
theorem dX7_pay_171 : decode cX7_pay 171 = .ok (.invokevirtual 114, 3) := by decide +kernel
theorem dX7_pay_174 : decode cX7_pay 174 = .ok (.iconst 0, 1) := by decide +kernel
theorem dX7_pay_175 : decode cX7_pay 175 = .ok (.istore 4, 2) := by decide +kernel
theorem dX7_pay_177 : decode cX7_pay 177 = .ok (.iload 4, 2) := by decide +kernel
theorem dX7_pay_179 : decode cX7_pay 179 = .ok (.aload_n 0, 1) := by decide +kernel
theorem dX7_pay_180 : decode cX7_pay 180 = .ok (.getfield 10, 3) := by decide +kernel
theorem dX7_pay_183 : decode cX7_pay 183 = .ok (.getfield 103, 3) := by decide +kernel
theorem dX7_pay_186 : decode cX7_pay 186 = .ok (.if_icmp .ge 71, 3) := by decide +kernel
theorem dX7_pay_189 : decode cX7_pay 189 = .ok (.aload_n 0, 1) := by decide +kernel
theorem dX7_pay_190 : decode cX7_pay 190 = .ok (.getfield 10, 3) := by decide +kernel
theorem dX7_pay_193 : decode cX7_pay 193 = .ok (.getfield 133, 3) := by decide +kernel
theorem dX7_pay_196 : decode cX7_pay 196 = .ok (.iload 4, 2) := by decide +kernel
theorem dX7_pay_198 : decode cX7_pay 198 = .ok (.aload_n 0, 1) := by decide +kernel
theorem dX7_pay_199 : decode cX7_pay 199 = .ok (.getfield 65, 3) := by decide +kernel
theorem dX7_pay_202 : decode cX7_pay 202 = .ok (.iload 4, 2) := by decide +kernel
theorem dX7_pay_204 : decode cX7_pay 204 = .ok (.iaload, 1) := by decide +kernel
theorem dX7_pay_205 : decode cX7_pay 205 = .ok (.aload_n 0, 1) := by decide +kernel
theorem dX7_pay_206 : decode cX7_pay 206 = .ok (.getfield 46, 3) := by decide +kernel
theorem dX7_pay_209 : decode cX7_pay 209 = .ok (.getfield 140, 3) := by decide +kernel
theorem dX7_pay_212 : decode cX7_pay 212 = .ok (.iload 4, 2) := by decide +kernel
theorem dX7_pay_214 : decode cX7_pay 214 = .ok (.iaload, 1) := by decide +kernel
theorem dX7_pay_215 : decode cX7_pay 215 = .ok (.isub, 1) := by decide +kernel
theorem dX7_pay_216 : decode cX7_pay 216 = .ok (.iastore, 1) := by decide +kernel
theorem dX7_pay_217 : decode cX7_pay 217 = .ok (.aload_n 0, 1) := by decide +kernel
theorem dX7_pay_218 : decode cX7_pay 218 = .ok (.getfield 10, 3) := by decide +kernel
theorem dX7_pay_221 : decode cX7_pay 221 = .ok (.getfield 117, 3) := by decide +kernel
theorem dX7_pay_224 : decode cX7_pay 224 = .ok (.iload 4, 2) := by decide +kernel
theorem dX7_pay_226 : decode cX7_pay 226 = .ok (.dup2, 1) := by decide +kernel
theorem dX7_pay_227 : decode cX7_pay 227 = .ok (.iaload, 1) := by decide +kernel
theorem dX7_pay_228 : decode cX7_pay 228 = .ok (.aload_n 0, 1) := by decide +kernel
theorem dX7_pay_229 : decode cX7_pay 229 = .ok (.getfield 46, 3) := by decide +kernel
theorem dX7_pay_232 : decode cX7_pay 232 = .ok (.getfield 140, 3) := by decide +kernel
theorem dX7_pay_235 : decode cX7_pay 235 = .ok (.iload 4, 2) := by decide +kernel
theorem dX7_pay_237 : decode cX7_pay 237 = .ok (.iaload, 1) := by decide +kernel
theorem dX7_pay_238 : decode cX7_pay 238 = .ok (.iadd, 1) := by decide +kernel
theorem dX7_pay_239 : decode cX7_pay 239 = .ok (.iastore, 1) := by decide +kernel
theorem dX7_pay_240 : decode cX7_pay 240 = .ok (.aload_n 0, 1) := by decide +kernel
theorem dX7_pay_241 : decode cX7_pay 241 = .ok (.getfield 10, 3) := by decide +kernel
theorem dX7_pay_244 : decode cX7_pay 244 = .ok (.getfield 120, 3) := by decide +kernel
theorem dX7_pay_247 : decode cX7_pay 247 = .ok (.iload 4, 2) := by decide +kernel
theorem dX7_pay_249 : decode cX7_pay 249 = .ok (.iconst 0, 1) := by decide +kernel
theorem dX7_pay_250 : decode cX7_pay 250 = .ok (.iastore, 1) := by decide +kernel
theorem dX7_pay_251 : decode cX7_pay 251 = .ok (.iinc 4 1, 3) := by decide +kernel
theorem dX7_pay_254 : decode cX7_pay 254 = .ok (.goto (-77), 3) := by decide +kernel
theorem dX7_pay_257 : decode cX7_pay 257 = .ok (.iload_n 3, 1) := by decide +kernel
theorem dX7_pay_258 : decode cX7_pay 258 = .ok (.ireturn, 1) := by decide +kernel
set_option maxHeartbeats 4000000 in
set_option maxRecDepth 100000 in
theorem m_X7_pay (l : Launch) (p : Int) (mem : Mem) (hp : i32 p) (hCI : CI mem) (hN : 0 ≤ mem 21 0 ∧ mem 21 0 ≤ 8) (hV : ∀ i : Nat, i < 8 → 0 ≤ mem 22 i ∧ mem 22 i ≤ 500) (hV1 : ∀ i : Nat, (i : Int) < mem 21 0 → 1 ≤ mem 22 i) (hTl : ∀ k : Nat, k < 8 → 0 ≤ mem 23 k ∧ mem 23 k ≤ 99) (hPu : ∀ k : Nat, k < 8 → 0 ≤ mem 24 k ∧ mem 24 k ≤ 99) (hTr : ∀ k : Nat, k < 8 → 0 ≤ mem 27 k ∧ mem 27 k ≤ 99) (hTy : 0 ≤ sumN (fun k => mem 27 k * mem 22 k) (mem 21 0).toNat ∧ sumN (fun k => mem 27 k * mem 22 k) (mem 21 0).toNat ≤ 2500) (hPn : 0 ≤ mem 20 5 ∧ mem 20 5 ≤ 9) (hPa : 0 ≤ mem 20 6 ∧ mem 20 6 ≤ 10) : Ret shp l yX7_pay cX7_pay 6 (some .int) 5 [pR 20, pI p] mem (fun rv mv => ∃ z, rv = some (pI z) ∧ ((¬ (1 ≤ p ∧ p ≤ 1000) ∧ z = -1 ∨ (1 ≤ p ∧ p ≤ 1000) ∧ pyA mem p < 0 ∧ z = -2 ∨ (1 ≤ p ∧ p ≤ 1000) ∧ 0 ≤ pyA mem p ∧ ¬ pyV mem p < 1000000 ∧ z = -3 ∨ (1 ≤ p ∧ p ≤ 1000) ∧ 0 ≤ pyA mem p ∧ pyV mem p < 1000000 ∧ (∃ k : Nat, (k : Int) < mem 21 0 ∧ ¬ pyOk mem p k) ∧ z = -4) ∧ KeepC mem mv ∨ (1 ≤ p ∧ p ≤ 1000) ∧ 0 ≤ pyA mem p ∧ pyV mem p < 1000000 ∧ (∀ k : Nat, (k : Int) < mem 21 0 → pyOk mem p k) ∧ z = pyV mem p ∧ CI mv ∧ (∃ mB, (∀ c, c < 179 → mB c = mem c) ∧ ∀ c, c < 179 → c ≠ 23 → c ≠ 24 → c ≠ 27 → mv c = remM mB c) ∧ (∀ k : Nat, mv 23 k = if (k : Int) < mem 21 0 then mem 23 k + mem 27 k - pyD mem p k else mem 23 k) ∧ (∀ k : Nat, mv 24 k = if (k : Int) < mem 21 0 then mem 24 k + pyD mem p k else mem 24 k) ∧ ∀ k : Nat, mv 27 k = if (k : Int) < mem 21 0 then 0 else mem 27 k)) := by
  refine ret_of (by decide +kernel) (Nat.le_of_ble_eq_true rfl) (fun X hX F G => ?_)
  show Ok shp X 6 0 [(0, pR 20), (1, pI p)] [] mem
  have hpd : pyA mem p = sumN (fun k => mem 27 k * mem 22 k) (mem 21 0).toNat - p := rfl
  refine ok_iload_n F dX7_pay_0 1 rfl ?_
  refine ok_calls F [pI p] dX7_pay_1 kM_X7_isPrice kS_X7_isPrice kL_X7_127 rfl (by decide) (Nat.le_of_ble_eq_true rfl) rfl (m_X7_isPrice _ p mem (by omega)) ?_
  rintro _ _ ⟨rfl, rfl⟩
  refine ok_if_ne F 9 dX7_pay_4 (by decide) (by omega) (fun c_1 => ?_) (fun c_1 => ?_)
  · refine ok_aload_n F dX7_pay_9 0 rfl ?_
    refine ok_getr F dX7_pay_10 kF_X7_10 sh_20 rfl ?_
    refine ok_aload_n F dX7_pay_13 0 rfl ?_
    refine ok_getr F dX7_pay_14 kF_X7_10 sh_20 rfl ?_
    refine ok_getr F dX7_pay_17 kF_X7_120 sh_21 rfl ?_
    refine ok_callv F [pR 27] dX7_pay_20 kM_X6_worthOf kI_X6_worthOf kV_X6_worthOf kL_X7_130 (ci := 6) rfl sh_21 rfl (by decide) (Nat.le_of_ble_eq_true rfl) rfl (m_X6_worthOf _ 27 mem (sh_28) (by omega)) ?_
    rintro _ _ ⟨rfl, rfl⟩
    refine ok_iload_n F dX7_pay_23 1 rfl ?_
    refine ok_isub F dX7_pay_24 ?_
    refine ok_istore_n (lv' := [(2, pI ((sumN (fun k => mem 27 k * mem 22 k) (mem 21 0).toNat) - p)), (0, pR 20), (1, pI p)]) F dX7_pay_25 (by decide) rfl ?_
    refine ok_iload_n F dX7_pay_26 0 rfl ?_
    refine ok_if_ge F 33 dX7_pay_27 (by decide) (by omega) (fun c_2 => ?_) (fun c_2 => ?_)
    · refine ok_iconst F dX7_pay_33 ?_
      refine ok_istore_n (lv' := [(3, pI 0), (2, pI ((sumN (fun k => mem 27 k * mem 22 k) (mem 21 0).toNat) - p)), (0, pR 20), (1, pI p)]) F dX7_pay_34 (by decide) rfl ?_
      have hL_35 : ∀ (n_35 : Nat) (i : Int) (m8 : Mem), (0 ≤ i ∧ i ≤ mem 21 0 ∧ (∀ c, c ≠ 211 → m8 c = mem c) ∧ ∀ k : Nat, m8 211 k = if (k : Int) < i then mem 23 k + mem 27 k else mem 211 k) → (mem 21 0 - i).toNat = n_35 → Ok shp X 6 35 [(0, pR 20), (1, pI p), (2, pI ((sumN (fun k => mem 27 k * mem 22 k) (mem 21 0).toNat) - p)), (3, pI i)] [] m8 := by
        intro n_35
        induction n_35 using Nat.strongRecOn with
        | _ n_35 ih_35 =>
          intro i m8 hI_35 hn_35
          obtain ⟨hi0, hi1, hF8, h8i⟩ := hI_35
          have hC8 : CI m8 := hCI.congr (fun c c1 c2 _ _ => hF8 c (by omega))
          refine ok_iload_n F dX7_pay_35 3 rfl ?_
          refine ok_aload_n F dX7_pay_36 0 rfl ?_
          refine ok_getr F dX7_pay_37 kF_X7_10 sh_20 rfl ?_
          refine ok_getf (v := mem 21 0) F dX7_pay_40 kF_X7_103 sh_21 rfl (by rw [(hF8 21 (by decide))] <;> rfl) ?_
          refine ok_icmp_ge F 77 dX7_pay_43 (by decide) (by omega) (by omega) (fun c_3 => ?_) (fun c_3 => ?_)
          · have h8 : ∀ k : Nat, m8 211 k = if (k : Int) < mem 21 0 then mem 23 k + mem 27 k else mem 211 k := fun k => by rw [h8i, show i = mem 21 0 by omega]
            refine ok_aload_n F dX7_pay_77 0 rfl ?_
            refine ok_getr F dX7_pay_78 kF_X7_46 sh_20 rfl ?_
            refine ok_aload_n F dX7_pay_81 0 rfl ?_
            refine ok_getr F dX7_pay_82 kF_X7_10 sh_20 rfl ?_
            refine ok_aload_n F dX7_pay_85 0 rfl ?_
            refine ok_getr F dX7_pay_86 kF_X7_65 sh_20 rfl ?_
            refine ok_iload_n F dX7_pay_89 2 rfl ?_
            refine ok_callv F [pR 21, pR 211, pI ((sumN (fun k => mem 27 k * mem 22 k) (mem 21 0).toNat) - p)] dX7_pay_90 kM_X0_take kI_X0_take kV_X0_take kL_X7_136 (ci := 0) rfl sh_183 rfl (by decide) (Nat.le_of_ble_eq_true rfl) rfl (m_X0_take _ 211 ((sumN (fun k => mem 27 k * mem 22 k) (mem 21 0).toNat) - p) m8 (hC8) (by rw [hF8 21 (by decide)]; exact hN) (by rw [hF8 22 (by decide)]; exact hV) (by rw [hF8 21 (by decide), hF8 22 (by decide)]; exact hV1) (by omega) (sh_211) (by decide) (fun i hi => by rw [hF8 21 (by decide)] at hi; have q1 := h8 i; rw [if_pos (by omega)] at q1; have q2 := hTl i (by omega); have q3 := hTr i (by omega); omega)) ?_
            rintro _ m_5 ⟨z_4, rfl, r_6⟩
            obtain ⟨t1, t2, t3⟩ := id r_6
            rw [hF8 21 (by decide), hF8 22 (by decide)] at t3
            have cg : ∀ i, i < (mem 21 0).toNat → (m8 211 i).toNat = (mem 23 i + mem 27 i).toNat := fun i hi => by rw [h8, if_pos (by omega)]
            have ef : fewT (fun i => (mem 22 i).toNat) (fun i => (m8 211 i).toNat) (mem 21 0).toNat (sumN (fun k => mem 27 k * mem 22 k) (mem 21 0).toNat - p).toNat = pyV mem p := fewT_congr _ cg
            rw [ef] at t3
            have pb : 0 ≤ pyV mem p ∧ pyV mem p ≤ 1000000 := fewT_bd _ _ _ _
            obtain ⟨mB, hmB⟩ : ∃ x, x = m_5 := ⟨_, rfl⟩
            have hk0 : KeepC mem m_5 := ⟨fun c hc => by rw [t1 c (by omega)]; exact hF8 c (by omega), t2⟩
            have hkB : KeepC mem mB := by rw [hmB]; exact hk0
            have t4 : pyV mem p = 1000000 ∧ z_4 = -1 ∨ pyV mem p < 1000000 ∧ z_4 = pyV mem p := t3.imp id (fun q => ⟨q.1, q.2.1⟩)
            have hz0 : pyV mem p < 1000000 → z_4 = pyV mem p := fun q => by omega
            have t5 : pyV mem p < 1000000 → ∀ j : Nat, (j : Int) < mem 21 0 → mB 185 j = pyD mem p j ∧ pyD mem p j ≤ mem 23 j + mem 27 j ∧ 0 ≤ pyD mem p j := fun q j hj => by
              have q2 := (t3.resolve_left (fun z => by omega)).2.2 j (by omega)
              rw [takR_congr (c' := fun i => (mem 23 i + mem 27 i).toNat) _ _ cg] at q2
              have q3 := (takR_rep q).2.2 j (by omega)
              have q4 := hTl j (by omega)
              have q5 := hTr j (by omega)
              have q6 : pyD mem p j = ((takR (fun i => (mem 22 i).toNat) (fun i => (mem 23 i + mem 27 i).toNat) (mem 21 0).toNat (pyA mem p).toNat j : Nat) : Int) := rfl
              refine ⟨by rw [hmB]; exact q2, ?_, ?_⟩ <;> omega
            have t6 : ∀ j : Nat, mB 211 j = m8 211 j := fun j => by rw [hmB, t1 211 (by decide)]
            refine ok_istore_n (lv' := [(3, pI z_4), (0, pR 20), (1, pI p), (2, pI ((sumN (fun k => mem 27 k * mem 22 k) (mem 21 0).toNat) - p))]) F dX7_pay_93 (by decide) rfl ?_
            refine ok_iload_n F dX7_pay_94 0 rfl ?_
            refine ok_if_ge F 101 dX7_pay_95 (by decide) (by omega) (fun c_7 => ?_) (fun c_7 => ?_)
            · have hT : pyV mem p < 1000000 := by omega
              have hz := hz0 hT
              refine ok_iconst F dX7_pay_101 ?_
              refine ok_istore (lv' := [(4, pI 0), (3, pI z_4), (0, pR 20), (1, pI p), (2, pI ((sumN (fun k => mem 27 k * mem 22 k) (mem 21 0).toNat) - p))]) F dX7_pay_102 (by decide) rfl ?_
              have hL_104 : ∀ (n_104 : Nat) (k : Int), (0 ≤ k ∧ k ≤ mem 21 0 ∧ ∀ i : Nat, (i : Int) < k → pyOk mem p i) → (mem 21 0 - k).toNat = n_104 → Ok shp X 6 104 [(0, pR 20), (1, pI p), (2, pI ((sumN (fun k => mem 27 k * mem 22 k) (mem 21 0).toNat) - p)), (3, pI z_4), (4, pI k)] [] m_5 := by
                intro n_104
                induction n_104 using Nat.strongRecOn with
                | _ n_104 ih_104 =>
                  intro k hI_104 hn_104
                  refine ok_iload F dX7_pay_104 4 rfl ?_
                  refine ok_aload_n F dX7_pay_106 0 rfl ?_
                  refine ok_getr F dX7_pay_107 kF_X7_10 sh_20 rfl ?_
                  refine ok_getf (v := mem 21 0) F dX7_pay_110 kF_X7_103 sh_21 rfl (by rw [(r_6.1 21 (by decide)), (hF8 21 (by decide))] <;> rfl) ?_
                  refine ok_icmp_ge F 170 dX7_pay_113 (by decide) (by omega) (by omega) (fun c_8 => ?_) (fun c_8 => ?_)
                  · refine ok_aload_n F dX7_pay_170 0 rfl ?_
                    refine ok_callv F [] dX7_pay_171 kM_X7_remember kI_X7_remember kV_X7_remember kL_X7_114 (ci := 7) rfl sh_20 rfl (by decide) (Nat.le_of_ble_eq_true rfl) rfl (m_X7_remember _ m_5 (by rw [hk0.1 20 (by decide)]; exact hPn) (by rw [hk0.1 20 (by decide)]; exact hPa)) ?_
                    rintro _ m_9 ⟨rfl, e_10⟩
                    have hrm : m_9 = remM mB := by rw [hmB]; exact e_10
                    have hPB : 0 ≤ mB 20 5 ∧ mB 20 5 ≤ 9 := by rw [hkB.1 20 (by decide)]; exact hPn
                    obtain ⟨m9, hm9⟩ : ∃ x, x = m_9 := ⟨_, rfl⟩
                    rw [← hm9] at hrm
                    have rr : ∀ a, a ≠ 20 → (a < 43 ∨ 153 ≤ a) → m9 a = mB a := fun a a1 a2 => remM_at hrm hPB ⟨a1, a2⟩
                    refine ok_iconst F dX7_pay_174 ?_
                    refine ok_istore (lv' := [(4, pI 0), (0, pR 20), (1, pI p), (2, pI ((sumN (fun k => mem 27 k * mem 22 k) (mem 21 0).toNat) - p)), (3, pI z_4)]) F dX7_pay_175 (by decide) rfl ?_
                    have hL_177 : ∀ (n_177 : Nat) (j : Int) (m : Mem), (0 ≤ j ∧ j ≤ mem 21 0 ∧ (∀ c, c ≠ 23 → c ≠ 24 → c ≠ 27 → m c = m9 c) ∧ (∀ k : Nat, m 23 k = if (k : Int) < j then mem 23 k + mem 27 k - pyD mem p k else mem 23 k) ∧ (∀ k : Nat, m 24 k = if (k : Int) < j then mem 24 k + pyD mem p k else mem 24 k) ∧ ∀ k : Nat, m 27 k = if (k : Int) < j then 0 else mem 27 k) → (mem 21 0 - j).toNat = n_177 → Ok shp X 6 177 [(0, pR 20), (1, pI p), (2, pI ((sumN (fun k => mem 27 k * mem 22 k) (mem 21 0).toNat) - p)), (3, pI z_4), (4, pI j)] [] m := by
                      intro n_177
                      induction n_177 using Nat.strongRecOn with
                      | _ n_177 ih_177 =>
                        intro j m hI_177 hn_177
                        obtain ⟨hj0, hj1, hF, h23, h24, h28⟩ := hI_177
                        have hN0 : m 21 0 = mem 21 0 := by rw [hF 21 (by decide) (by decide) (by decide), rr 21 (by decide) (by decide), hkB.1 21 (by decide)]
                        have h185 : ∀ i : Nat, m 185 i = mB 185 i := fun i => by rw [hF 185 (by decide) (by decide) (by decide), rr 185 (by decide) (by decide)]
                        have h211 : ∀ i : Nat, m 211 i = mB 211 i := fun i => by rw [hF 211 (by decide) (by decide) (by decide), rr 211 (by decide) (by decide)]
                        refine ok_iload F dX7_pay_177 4 rfl ?_
                        refine ok_aload_n F dX7_pay_179 0 rfl ?_
                        refine ok_getr F dX7_pay_180 kF_X7_10 sh_20 rfl ?_
                        refine ok_getf (v := m 21 0) F dX7_pay_183 kF_X7_103 sh_21 rfl rfl ?_
                        refine ok_icmp_ge F 257 dX7_pay_186 (by decide) (by omega) (by omega) (fun c_11 => ?_) (fun c_11 => ?_)
                        · refine ok_iload_n F dX7_pay_257 3 rfl ?_
                          refine ok_iret F G dX7_pay_258 ?_
                          refine ⟨_, rfl, Or.inr ⟨by omega, by omega, hT, fun i hi => hI_104.2.2 i (by omega), hz, hkB.2.congr (fun c c1 c2 _ _ => by rw [hF c (by omega) (by omega) (by omega), rr c (by omega) (by omega)]), ⟨mB, hkB.1, fun c c1 c2 c3 c4 => by rw [hF c c2 c3 c4, hrm]⟩, fun k => ?_, fun k => ?_, fun k => ?_⟩⟩
                          · rw [h23, show j = mem 21 0 by omega]
                          · rw [h24, show j = mem 21 0 by omega]
                          · rw [h28, show j = mem 21 0 by omega]
                        · have a1 := hTl j.toNat (by omega)
                          have a2 := hPu j.toNat (by omega)
                          have a5 := hTr j.toNat (by omega)
                          obtain ⟨a3, a4, a6⟩ := t5 hT j.toNat (by omega)
                          have b1 := h23 j.toNat
                          have b2 := h24 j.toNat
                          have b3 := h28 j.toNat
                          rw [if_neg (by omega)] at b1 b2 b3
                          have b4 := h185 j.toNat
                          have b5 := h211 j.toNat
                          have a8 := h8 j.toNat
                          have a7 := t6 j.toNat
                          rw [if_pos (by omega)] at a8
                          refine ok_aload_n F dX7_pay_189 0 rfl ?_
                          refine ok_getr F dX7_pay_190 kF_X7_10 sh_20 rfl ?_
                          refine ok_getr F dX7_pay_193 kF_X7_133 sh_21 rfl ?_
                          refine ok_iload F dX7_pay_196 4 rfl ?_
                          refine ok_aload_n F dX7_pay_198 0 rfl ?_
                          refine ok_getr F dX7_pay_199 kF_X7_65 sh_20 rfl ?_
                          refine ok_iload F dX7_pay_202 4 rfl ?_
                          refine ok_iald (v := m 211 j.toNat) F dX7_pay_204 sh_211 (by first | decide | assumption) (by omega) (by omega) rfl ?_
                          refine ok_aload_n F dX7_pay_205 0 rfl ?_
                          refine ok_getr F dX7_pay_206 kF_X7_46 sh_20 rfl ?_
                          refine ok_getr F dX7_pay_209 kF_X7_140 sh_183 rfl ?_
                          refine ok_iload F dX7_pay_212 4 rfl ?_
                          refine ok_iald (v := m 185 j.toNat) F dX7_pay_214 sh_185 (by first | decide | assumption) (by omega) (by omega) rfl ?_
                          refine ok_isub F dX7_pay_215 ?_
                          refine ok_iast F dX7_pay_216 sh_23 (by first | decide | assumption) (by omega) (by omega) (fun m_12 e_13 => ?_)
                          refine ok_aload_n F dX7_pay_217 0 rfl ?_
                          refine ok_getr F dX7_pay_218 kF_X7_10 sh_20 rfl ?_
                          refine ok_getr F dX7_pay_221 kF_X7_117 sh_21 rfl ?_
                          refine ok_iload F dX7_pay_224 4 rfl ?_
                          refine ok_dup2 F dX7_pay_226 rfl rfl ?_
                          refine ok_iald (v := m 24 j.toNat) F dX7_pay_227 sh_24 (by first | decide | assumption) (by omega) (by omega) (by rw [e_13, mset_nk (by decide)] <;> rfl) ?_
                          refine ok_aload_n F dX7_pay_228 0 rfl ?_
                          refine ok_getr F dX7_pay_229 kF_X7_46 sh_20 rfl ?_
                          refine ok_getr F dX7_pay_232 kF_X7_140 sh_183 rfl ?_
                          refine ok_iload F dX7_pay_235 4 rfl ?_
                          refine ok_iald (v := m 185 j.toNat) F dX7_pay_237 sh_185 (by first | decide | assumption) (by omega) (by omega) (by rw [e_13, mset_nk (by decide)] <;> rfl) ?_
                          refine ok_iadd F dX7_pay_238 ?_
                          refine ok_iast F dX7_pay_239 sh_24 (by first | decide | assumption) (by omega) (by omega) (fun m_14 e_15 => ?_)
                          refine ok_aload_n F dX7_pay_240 0 rfl ?_
                          refine ok_getr F dX7_pay_241 kF_X7_10 sh_20 rfl ?_
                          refine ok_getr F dX7_pay_244 kF_X7_120 sh_21 rfl ?_
                          refine ok_iload F dX7_pay_247 4 rfl ?_
                          refine ok_iconst F dX7_pay_249 ?_
                          refine ok_iast F dX7_pay_250 sh_27 (by first | decide | assumption) (by omega) (by omega) (fun m_16 e_17 => ?_)
                          refine ok_iinc (lv' := [(4, pI (j + 1)), (0, pR 20), (1, pI p), (2, pI ((sumN (fun k => mem 27 k * mem 22 k) (mem 21 0).toNat) - p)), (3, pI z_4)]) F dX7_pay_251 4 rfl (by decide) rfl ?_
                          refine ok_goto F 177 dX7_pay_254 (by decide) ?_
                          refine ok_lvp [1, 2, 3, 4, 0] (lv' := [(0, pR 20), (1, pI p), (2, pI ((sumN (fun k => mem 27 k * mem 22 k) (mem 21 0).toNat) - p)), (3, pI z_4), (4, pI (j + 1))]) rfl ?_
                          refine ih_177 _ ?_ (j + 1) m_16 ?_ rfl
                          · omega
                          · refine ⟨by omega, by omega, fun c c1 c2 c3 => by rw [e_17, e_15, e_13, mset_nka c3, mset_nka c2, mset_nka c1]; exact hF c c1 c2 c3, fun k => ?_, fun k => ?_, fun k => ?_⟩
                            · rw [e_17, e_15, e_13, mset_nka (by decide), mset_nka (by decide)]
                              by_cases e : k = j.toNat
                              · subst e; rw [mset_eq, if_pos (by omega)]; omega
                              · rw [mset_ne (fun q => e q.2), h23]; by_cases g : (k : Int) < j
                                · rw [if_pos g, if_pos (by omega)]
                                · rw [if_neg g, if_neg (by omega)]
                            · rw [e_17, e_15, e_13, mset_nka (by decide)]
                              by_cases e : k = j.toNat
                              · subst e; rw [mset_eq, if_pos (by omega)]; omega
                              · rw [mset_ne (fun q => e q.2), mset_nka (by decide), h24]; by_cases g : (k : Int) < j
                                · rw [if_pos g, if_pos (by omega)]
                                · rw [if_neg g, if_neg (by omega)]
                            · rw [e_17, e_15, e_13]
                              by_cases e : k = j.toNat
                              · subst e; rw [mset_eq, if_pos (by omega)]
                              · rw [mset_ne (fun q => e q.2), mset_nka (by decide), mset_nka (by decide), h28]; by_cases g : (k : Int) < j
                                · rw [if_pos g, if_pos (by omega)]
                                · rw [if_neg g, if_neg (by omega)]
                    refine ok_lvp [1, 2, 3, 4, 0] (lv' := [(0, pR 20), (1, pI p), (2, pI ((sumN (fun k => mem 27 k * mem 22 k) (mem 21 0).toNat) - p)), (3, pI z_4), (4, pI 0)]) rfl ?_
                    refine hL_177 _ 0 m_9 ?_ rfl
                    rw [← hm9]
                    exact ⟨by omega, by omega, fun _ _ _ _ => rfl, fun k => by rw [if_neg (by omega), rr 23 (by decide) (by decide), hkB.1 23 (by decide)], fun k => by rw [if_neg (by omega), rr 24 (by decide) (by decide), hkB.1 24 (by decide)], fun k => by rw [if_neg (by omega), rr 27 (by decide) (by decide), hkB.1 27 (by decide)]⟩
                  · have a1 := hTl k.toNat (by omega)
                    have a2 := hPu k.toNat (by omega)
                    have a5 := hTr k.toNat (by omega)
                    obtain ⟨a3, a4, a6⟩ := t5 hT k.toNat (by omega)
                    have a7 := t6 k.toNat
                    have a8 := h8 k.toNat
                    rw [if_pos (by omega)] at a8
                    rw [hmB] at a3 a7
                    refine ok_aload_n F dX7_pay_116 0 rfl ?_
                    refine ok_getr F dX7_pay_117 kF_X7_46 sh_20 rfl ?_
                    refine ok_getr F dX7_pay_120 kF_X7_140 sh_183 rfl ?_
                    refine ok_iload F dX7_pay_123 4 rfl ?_
                    refine ok_iald (v := m_5 185 k.toNat) F dX7_pay_125 sh_185 (by first | decide | assumption) (by omega) (by omega) rfl ?_
                    refine ok_istore (lv' := [(5, pI (m_5 185 k.toNat)), (0, pR 20), (1, pI p), (2, pI ((sumN (fun k => mem 27 k * mem 22 k) (mem 21 0).toNat) - p)), (3, pI z_4), (4, pI k)]) F dX7_pay_126 (by decide) rfl ?_
                    refine ok_aload_n F dX7_pay_128 1 rfl ?_
                    refine ok_getr F dX7_pay_129 kF_X7_65 sh_20 rfl ?_
                    refine ok_iload F dX7_pay_132 5 rfl ?_
                    refine ok_iald (v := m_5 211 k.toNat) F dX7_pay_134 sh_211 (by first | decide | assumption) (by omega) (by omega) rfl ?_
                    refine ok_iload F dX7_pay_135 0 rfl ?_
                    refine ok_isub F dX7_pay_137 ?_
                    refine ok_bipush F dX7_pay_138 rfl ?_
                    refine ok_icmp_ge F 161 dX7_pay_140 (by decide) (by omega) (by omega) (fun c_18 => ?_) (fun c_18 => ?_)
                    · refine ok_bipush F dX7_pay_161 rfl ?_
                      refine ok_iret F G dX7_pay_163 ?_
                      exact ⟨_, rfl, Or.inl ⟨Or.inr (Or.inr (Or.inr ⟨by omega, by omega, hT, ⟨k.toNat, by omega, fun q => by have q1 := q.1; have q2 := q.2; omega⟩, rfl⟩)), hk0⟩⟩
                    · refine ok_aload_n F dX7_pay_143 1 rfl ?_
                      refine ok_getr F dX7_pay_144 kF_X7_10 sh_20 rfl ?_
                      refine ok_getr F dX7_pay_147 kF_X7_117 sh_21 rfl ?_
                      refine ok_iload F dX7_pay_150 5 rfl ?_
                      refine ok_iald (v := mem 24 k.toNat) F dX7_pay_152 sh_24 (by first | decide | assumption) (by omega) (by omega) (by rw [(r_6.1 24 (by decide)), (hF8 24 (by decide))] <;> rfl) ?_
                      refine ok_iload F dX7_pay_153 0 rfl ?_
                      refine ok_iadd F dX7_pay_155 ?_
                      refine ok_bipush F dX7_pay_156 rfl ?_
                      refine ok_icmp_lt F 164 dX7_pay_158 (by decide) (by omega) (by omega) (fun c_19 => ?_) (fun c_19 => ?_)
                      · refine ok_iinc (lv' := [(4, pI (k + 1)), (5, pI (m_5 185 k.toNat)), (0, pR 20), (1, pI p), (2, pI ((sumN (fun k => mem 27 k * mem 22 k) (mem 21 0).toNat) - p)), (3, pI z_4)]) F dX7_pay_164 5 rfl (by decide) rfl ?_
                        refine ok_goto F 104 dX7_pay_167 (by decide) ?_
                        refine ok_lvp [2, 3, 4, 5, 0] (lv' := [(0, pR 20), (1, pI p), (2, pI ((sumN (fun k => mem 27 k * mem 22 k) (mem 21 0).toNat) - p)), (3, pI z_4), (4, pI (k + 1))]) rfl ?_
                        refine ih_104 _ ?_ (k + 1) ?_ rfl
                        · omega
                        · refine ⟨by omega, by omega, fun i hi => ?_⟩
                          by_cases e : (i : Int) < k
                          · exact hI_104.2.2 i e
                          · rw [show i = k.toNat by omega]; exact ⟨by omega, by omega⟩
                      · refine ok_bipush F dX7_pay_161 rfl ?_
                        refine ok_iret F G dX7_pay_163 ?_
                        exact ⟨_, rfl, Or.inl ⟨Or.inr (Or.inr (Or.inr ⟨by omega, by omega, hT, ⟨k.toNat, by omega, fun q => by have q1 := q.1; have q2 := q.2; omega⟩, rfl⟩)), hk0⟩⟩
              refine ok_lvp [2, 3, 4, 1, 0] (lv' := [(0, pR 20), (1, pI p), (2, pI ((sumN (fun k => mem 27 k * mem 22 k) (mem 21 0).toNat) - p)), (3, pI z_4), (4, pI 0)]) rfl ?_
              refine hL_104 _ 0 ?_ rfl
              exact ⟨by omega, by omega, fun i hi => by omega⟩
            · refine ok_bipush F dX7_pay_98 rfl ?_
              refine ok_iret F G dX7_pay_100 ?_
              exact ⟨_, rfl, Or.inl ⟨Or.inr (Or.inr (Or.inl ⟨by omega, by omega, by omega, rfl⟩)), hk0⟩⟩
          · have a1 := hTl i.toNat (by omega)
            have a2 := hTr i.toNat (by omega)
            refine ok_aload_n F dX7_pay_46 0 rfl ?_
            refine ok_getr F dX7_pay_47 kF_X7_65 sh_20 rfl ?_
            refine ok_iload_n F dX7_pay_50 3 rfl ?_
            refine ok_aload_n F dX7_pay_51 0 rfl ?_
            refine ok_getr F dX7_pay_52 kF_X7_10 sh_20 rfl ?_
            refine ok_getr F dX7_pay_55 kF_X7_133 sh_21 rfl ?_
            refine ok_iload_n F dX7_pay_58 3 rfl ?_
            refine ok_iald (v := mem 23 i.toNat) F dX7_pay_59 sh_23 (by first | decide | assumption) (by omega) (by omega) (by rw [(hF8 23 (by decide))] <;> rfl) ?_
            refine ok_aload_n F dX7_pay_60 0 rfl ?_
            refine ok_getr F dX7_pay_61 kF_X7_10 sh_20 rfl ?_
            refine ok_getr F dX7_pay_64 kF_X7_120 sh_21 rfl ?_
            refine ok_iload_n F dX7_pay_67 3 rfl ?_
            refine ok_iald (v := mem 27 i.toNat) F dX7_pay_68 sh_27 (by first | decide | assumption) (by omega) (by omega) (by rw [(hF8 27 (by decide))] <;> rfl) ?_
            refine ok_iadd F dX7_pay_69 ?_
            refine ok_iast F dX7_pay_70 sh_211 (by first | decide | assumption) (by omega) (by omega) (fun m_20 e_21 => ?_)
            refine ok_iinc (lv' := [(3, pI (i + 1)), (0, pR 20), (1, pI p), (2, pI ((sumN (fun k => mem 27 k * mem 22 k) (mem 21 0).toNat) - p))]) F dX7_pay_71 3 rfl (by decide) rfl ?_
            refine ok_goto F 35 dX7_pay_74 (by decide) ?_
            refine ok_lvp [1, 2, 3, 0] (lv' := [(0, pR 20), (1, pI p), (2, pI ((sumN (fun k => mem 27 k * mem 22 k) (mem 21 0).toNat) - p)), (3, pI (i + 1))]) rfl ?_
            refine ih_35 _ ?_ (i + 1) m_20 ?_ rfl
            · omega
            · refine ⟨by omega, by omega, fun c c1 => by rw [e_21, mset_nka c1]; exact hF8 c c1, fun k => ?_⟩
              rw [e_21]
              by_cases e : k = i.toNat
              · subst e; rw [mset_eq, if_pos (by omega)]
              · rw [mset_ne (fun q => e q.2), h8i]; by_cases g : (k : Int) < i
                · rw [if_pos g, if_pos (by omega)]
                · rw [if_neg g, if_neg (by omega)]
      refine ok_lvp [2, 3, 1, 0] (lv' := [(0, pR 20), (1, pI p), (2, pI ((sumN (fun k => mem 27 k * mem 22 k) (mem 21 0).toNat) - p)), (3, pI 0)]) rfl ?_
      refine hL_35 _ 0 mem ?_ rfl
      exact ⟨by omega, by omega, fun _ _ => rfl, fun k => by rw [if_neg (by omega)]⟩
    · refine ok_bipush F dX7_pay_30 rfl ?_
      refine ok_iret F G dX7_pay_32 ?_
      exact ⟨_, rfl, Or.inl ⟨Or.inr (Or.inl ⟨by omega, by omega, rfl⟩), KeepC.rf hCI⟩⟩
  · refine ok_iconst F dX7_pay_7 ?_
    refine ok_iret F G dX7_pay_8 ?_
    exact ⟨_, rfl, Or.inl ⟨Or.inl ⟨by omega, rfl⟩, KeepC.rf hCI⟩⟩
