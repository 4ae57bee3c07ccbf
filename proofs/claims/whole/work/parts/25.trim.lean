/-! the reference: as few of each kind as will do -/
/-- how many sales of a day are short, from a row on -/
def shR (m1 : Nat → Int) (d : Int) (n2 : Nat) (w : Nat → Int) : Int := (lifeN m1 d (life0 w (fun _ => 0)) n2).2.2.1
theorem shR_of {m1 w low : Nat → Int} {d : Int} {n2 : Nat} {w' : Nat → Int} (hN : m1 0 ≤ 8) (h : ∀ k, k < 8 → w k = w' k) : (lifeN m1 d (life0 w low) n2).2.2.1 = shR m1 d n2 w' := by
  unfold shR
  rw [(lifeN_congr (low := low) (low' := fun _ => 0) (d := d) hN h n2).2.2]
theorem shR_bd {m1 w : Nat → Int} {d : Int} {n2 : Nat} (hN : m1 0 ≤ 8) (hw : ∀ k : Nat, k < 8 → 0 ≤ w k ∧ w k ≤ 99) (hg : ∀ s : Nat, s < n2 → ∀ k : Nat, k < 8 → 0 ≤ sGiven m1 s k) : 0 ≤ shR m1 d n2 w ∧ shR m1 d n2 w ≤ n2 := (lifeN_bd hN (life0_bd hw) hg).2.2.1
/-- a row with z at k -/
def rput (w : Nat → Int) (k : Nat) (z : Int) : Nat → Int := fun i => if i = k then z else w i
/-- a kind's pieces taken one by one as long as no more are short -/
def trimK (m1 : Nat → Int) (d : Int) (n2 : Nat) (most : Int) (k : Nat) : Nat → (Nat → Int) → (Nat → Int)
  | 0, w => w
  | f + 1, w => if shR m1 d n2 (rput w k (w k - 1)) ≤ most then trimK m1 d n2 most k f (rput w k (w k - 1)) else w
theorem trimK_s (m1 : Nat → Int) (d : Int) (n2 : Nat) (most : Int) (k f : Nat) (w : Nat → Int) : trimK m1 d n2 most k (f + 1) w = if shR m1 d n2 (rput w k (w k - 1)) ≤ most then trimK m1 d n2 most k f (rput w k (w k - 1)) else w := rfl
/-- kind by kind, from the greatest on -/
def trimA (m1 : Nat → Int) (d : Int) (n2 : Nat) (most : Int) : Nat → (Nat → Int) → (Nat → Int)
  | 0, w => w
  | n + 1, w => trimA m1 d n2 most n (trimK m1 d n2 most n (w n).toNat w)
theorem trimK_ne (m1 : Nat → Int) (d : Int) (n2 : Nat) (most : Int) (k : Nat) : ∀ (f : Nat) (w : Nat → Int) (i : Nat), i ≠ k → trimK m1 d n2 most k f w i = w i
  | 0, _, _, _ => rfl
  | f + 1, w, i, h => by
    rw [trimK_s]
    split
    · rw [trimK_ne m1 d n2 most k f _ i h]
      exact if_neg h
    · rfl
theorem trimA_ge (m1 : Nat → Int) (d : Int) (n2 : Nat) (most : Int) : ∀ (n : Nat) (w : Nat → Int) (i : Nat), n ≤ i → trimA m1 d n2 most n w i = w i
  | 0, _, _, _ => rfl
  | n + 1, w, i, h => by
    show trimA m1 d n2 most n (trimK m1 d n2 most n (w n).toNat w) i = _
    rw [trimA_ge m1 d n2 most n _ i (by omega)]
    exact trimK_ne m1 d n2 most n _ _ i (by omega)
theorem dX8_trim_0 : decode cX8_trim 0 = .ok (.aload_n 0, 1) := by decide +kernel
theorem dX8_trim_1 : decode cX8_trim 1 = .ok (.iload_n 1, 1) := by decide +kernel
theorem dX8_trim_2 : decode cX8_trim 2 = .ok (.invokevirtual 285, 3) := by decide +kernel
theorem dX8_trim_5 : decode cX8_trim 5 = .ok (.ifCond .eq 16, 3) := by decide +kernel
theorem dX8_trim_8 : decode cX8_trim 8 = .ok (.iload_n 2, 1) := by decide +kernel
theorem dX8_trim_9 : decode cX8_trim 9 = .ok (.iconst (-1), 1) := by decide +kernel
theorem dX8_trim_10 : decode cX8_trim 10 = .ok (.if_icmp .eq 13, 3) := by decide +kernel
theorem dX8_trim_13 : decode cX8_trim 13 = .ok (.aload_n 0, 1) := by decide +kernel
theorem dX8_trim_14 : decode cX8_trim 14 = .ok (.iload_n 2, 1) := by decide +kernel
theorem dX8_trim_15 : decode cX8_trim 15 = .ok (.invokevirtual 215, 3) := by decide +kernel
theorem dX8_trim_18 : decode cX8_trim 18 = .ok (.ifCond .ne 5, 3) := by decide +kernel
theorem dX8_trim_21 : decode cX8_trim 21 = .ok (.iconst (-1), 1) := by decide +kernel
theorem dX8_trim_22 : decode cX8_trim 22 = .ok (.ireturn, 1) := by decide +kernel
theorem dX8_trim_23 : decode cX8_trim 23 = .ok (.iconst 0, 1) := by decide +kernel
theorem dX8_trim_24 : decode cX8_trim 24 = .ok (.istore_n 3, 1) := by decide +kernel
theorem dX8_trim_25 : decode cX8_trim 25 = .ok (.iload_n 3, 1) := by decide +kernel
theorem dX8_trim_26 : decode cX8_trim 26 = .ok (.bipush 8, 2) := by decide +kernel
theorem dX8_trim_28 : decode cX8_trim 28 = .ok (.if_icmp .ge 24, 3) := by decide +kernel
theorem dX8_trim_31 : decode cX8_trim 31 = .ok (.aload_n 0, 1) := by decide +kernel
theorem dX8_trim_32 : decode cX8_trim 32 = .ok (.getfield 65, 3) := by decide +kernel
theorem dX8_trim_35 : decode cX8_trim 35 = .ok (.iload_n 3, 1) := by decide +kernel
theorem dX8_trim_36 : decode cX8_trim 36 = .ok (.aload_n 0, 1) := by decide +kernel
theorem dX8_trim_37 : decode cX8_trim 37 = .ok (.getfield 9, 3) := by decide +kernel
theorem dX8_trim_40 : decode cX8_trim 40 = .ok (.bipush 11, 2) := by decide +kernel
theorem dX8_trim_42 : decode cX8_trim 42 = .ok (.iload_n 3, 1) := by decide +kernel
theorem dX8_trim_43 : decode cX8_trim 43 = .ok (.iadd, 1) := by decide +kernel
theorem dX8_trim_44 : decode cX8_trim 44 = .ok (.iaload, 1) := by decide +kernel
theorem dX8_trim_45 : decode cX8_trim 45 = .ok (.iastore, 1) := by decide +kernel
theorem dX8_trim_46 : decode cX8_trim 46 = .ok (.iinc 3 1, 3) := by decide +kernel
theorem dX8_trim_49 : decode cX8_trim 49 = .ok (.goto (-24), 3) := by decide +kernel
theorem dX8_trim_52 : decode cX8_trim 52 = .ok (.aload_n 0, 1) := by decide +kernel
theorem dX8_trim_53 : decode cX8_trim 53 = .ok (.iload_n 1, 1) := by decide +kernel
theorem dX8_trim_54 : decode cX8_trim 54 = .ok (.invokevirtual 332, 3) := by decide +kernel
theorem dX8_trim_57 : decode cX8_trim 57 = .ok (.istore_n 3, 1) := by decide +kernel
theorem dX8_trim_58 : decode cX8_trim 58 = .ok (.iconst 0, 1) := by decide +kernel
theorem dX8_trim_59 : decode cX8_trim 59 = .ok (.istore 4, 2) := by decide +kernel
theorem dX8_trim_61 : decode cX8_trim 61 = .ok (.aload_n 0, 1) := by decide +kernel
theorem dX8_trim_62 : decode cX8_trim 62 = .ok (.getfield 9, 3) := by decide +kernel
theorem dX8_trim_65 : decode cX8_trim 65 = .ok (.iconst 0, 1) := by decide +kernel
theorem dX8_trim_66 : decode cX8_trim 66 = .ok (.iaload, 1) := by decide +kernel
theorem dX8_trim_67 : decode cX8_trim 67 = .ok (.iconst 1, 1) := by decide +kernel
theorem dX8_trim_68 : decode cX8_trim 68 = .ok (.isub, 1) := by decide +kernel
theorem dX8_trim_69 : decode cX8_trim 69 = .ok (.istore 5, 2) := by decide +kernel
theorem dX8_trim_71 : decode cX8_trim 71 = .ok (.iload 5, 2) := by decide +kernel
theorem dX8_trim_73 : decode cX8_trim 73 = .ok (.ifCond .lt 99, 3) := by decide +kernel
theorem dX8_trim_76 : decode cX8_trim 76 = .ok (.iconst 1, 1) := by decide +kernel
theorem dX8_trim_77 : decode cX8_trim 77 = .ok (.istore 6, 2) := by decide +kernel
theorem dX8_trim_79 : decode cX8_trim 79 = .ok (.iload 6, 2) := by decide +kernel
theorem dX8_trim_81 : decode cX8_trim 81 = .ok (.ifCond .eq 66, 3) := by decide +kernel
theorem dX8_trim_84 : decode cX8_trim 84 = .ok (.aload_n 0, 1) := by decide +kernel
theorem dX8_trim_85 : decode cX8_trim 85 = .ok (.getfield 65, 3) := by decide +kernel
theorem dX8_trim_88 : decode cX8_trim 88 = .ok (.iload 5, 2) := by decide +kernel
theorem dX8_trim_90 : decode cX8_trim 90 = .ok (.iaload, 1) := by decide +kernel
theorem dX8_trim_91 : decode cX8_trim 91 = .ok (.ifCond .le 56, 3) := by decide +kernel
theorem dX8_trim_94 : decode cX8_trim 94 = .ok (.aload_n 0, 1) := by decide +kernel
theorem dX8_trim_95 : decode cX8_trim 95 = .ok (.getfield 65, 3) := by decide +kernel
theorem dX8_trim_98 : decode cX8_trim 98 = .ok (.iload 5, 2) := by decide +kernel
theorem dX8_trim_100 : decode cX8_trim 100 = .ok (.dup2, 1) := by decide +kernel
theorem dX8_trim_101 : decode cX8_trim 101 = .ok (.iaload, 1) := by decide +kernel
theorem dX8_trim_102 : decode cX8_trim 102 = .ok (.iconst 1, 1) := by decide +kernel
theorem dX8_trim_103 : decode cX8_trim 103 = .ok (.isub, 1) := by decide +kernel
theorem dX8_trim_104 : decode cX8_trim 104 = .ok (.iastore, 1) := by decide +kernel
theorem dX8_trim_105 : decode cX8_trim 105 = .ok (.aload_n 0, 1) := by decide +kernel
theorem dX8_trim_106 : decode cX8_trim 106 = .ok (.iload_n 1, 1) := by decide +kernel
theorem dX8_trim_107 : decode cX8_trim 107 = .ok (.invokevirtual 332, 3) := by decide +kernel
theorem dX8_trim_110 : decode cX8_trim 110 = .ok (.iload_n 3, 1) := by decide +kernel
theorem dX8_trim_111 : decode cX8_trim 111 = .ok (.if_icmp .gt 7, 3) := by decide +kernel
theorem dX8_trim_114 : decode cX8_trim 114 = .ok (.iconst 1, 1) := by decide +kernel
theorem dX8_trim_115 : decode cX8_trim 115 = .ok (.goto 4, 3) := by decide +kernel
theorem dX8_trim_118 : decode cX8_trim 118 = .ok (.iconst 0, 1) := by decide +kernel
theorem dX8_trim_119 : decode cX8_trim 119 = .ok (.istore 6, 2) := by decide +kernel
theorem dX8_trim_121 : decode cX8_trim 121 = .ok (.aload_n 0, 1) := by decide +kernel
theorem dX8_trim_122 : decode cX8_trim 122 = .ok (.getfield 65, 3) := by decide +kernel
theorem dX8_trim_125 : decode cX8_trim 125 = .ok (.iload 5, 2) := by decide +kernel
theorem dX8_trim_127 : decode cX8_trim 127 = .ok (.dup2, 1) := by decide +kernel
theorem dX8_trim_128 : decode cX8_trim 128 = .ok (.iaload, 1) := by decide +kernel
theorem dX8_trim_129 : decode cX8_trim 129 = .ok (.iload 6, 2) := by decide +kernel
theorem dX8_trim_131 : decode cX8_trim 131 = .ok (.ifCond .ne 7, 3) := by decide +kernel
theorem dX8_trim_134 : decode cX8_trim 134 = .ok (.iconst 1, 1) := by decide +kernel
theorem dX8_trim_135 : decode cX8_trim 135 = .ok (.goto 4, 3) := by decide +kernel
theorem dX8_trim_138 : decode cX8_trim 138 = .ok (.iconst 0, 1) := by decide +kernel
theorem dX8_trim_139 : decode cX8_trim 139 = .ok (.invokestatic 137, 3) := by decide +kernel
theorem dX8_trim_142 : decode cX8_trim 142 = .ok (.iadd, 1) := by decide +kernel
theorem dX8_trim_143 : decode cX8_trim 143 = .ok (.iastore, 1) := by decide +kernel
theorem dX8_trim_144 : decode cX8_trim 144 = .ok (.goto (-65), 3) := by decide +kernel
theorem dX8_trim_147 : decode cX8_trim 147 = .ok (.iload 4, 2) := by decide +kernel
theorem dX8_trim_149 : decode cX8_trim 149 = .ok (.aload_n 0, 1) := by decide +kernel
theorem dX8_trim_150 : decode cX8_trim 150 = .ok (.getfield 65, 3) := by decide +kernel
theorem dX8_trim_153 : decode cX8_trim 153 = .ok (.iload 5, 2) := by decide +kernel
theorem dX8_trim_155 : decode cX8_trim 155 = .ok (.iaload, 1) := by decide +kernel
theorem dX8_trim_156 : decode cX8_trim 156 = .ok (.aload_n 0, 1) := by decide +kernel
theorem dX8_trim_157 : decode cX8_trim 157 = .ok (.iload 5, 2) := by decide +kernel
theorem dX8_trim_159 : decode cX8_trim 159 = .ok (.invokevirtual 191, 3) := by decide +kernel
theorem dX8_trim_162 : decode cX8_trim 162 = .ok (.imul, 1) := by decide +kernel
theorem dX8_trim_163 : decode cX8_trim 163 = .ok (.iadd, 1) := by decide +kernel
theorem dX8_trim_164 : decode cX8_trim 164 = .ok (.istore 4, 2) := by decide +kernel
theorem dX8_trim_166 : decode cX8_trim 166 = .ok (.iinc 5 (-1), 3) := by decide +kernel
theorem dX8_trim_169 : decode cX8_trim 169 = .ok (.goto (-98), 3) := by decide +kernel
theorem dX8_trim_172 : decode cX8_trim 172 = .ok (.iload_n 2, 1) := by decide +kernel
theorem dX8_trim_173 : decode cX8_trim 173 = .ok (.iconst (-1), 1) := by decide +kernel
theorem dX8_trim_174 : decode cX8_trim 174 = .ok (.if_icmp .ne 8, 3) := by decide +kernel
theorem dX8_trim_177 : decode cX8_trim 177 = .ok (.iload 4, 2) := by decide +kernel
theorem dX8_trim_179 : decode cX8_trim 179 = .ok (.goto 9, 3) := by decide +kernel
theorem dX8_trim_182 : decode cX8_trim 182 = .ok (.aload_n 0, 1) := by decide +kernel
theorem dX8_trim_183 : decode cX8_trim 183 = .ok (.getfield 65, 3) := by decide +kernel
theorem dX8_trim_186 : decode cX8_trim 186 = .ok (.iload_n 2, 1) := by decide +kernel
theorem dX8_trim_187 : decode cX8_trim 187 = .ok (.iaload, 1) := by decide +kernel
theorem dX8_trim_188 : decode cX8_trim 188 = .ok (.ireturn, 1) := by decide +kernel
set_option maxHeartbeats 4000000 in
set_option maxRecDepth 100000 in
theorem m_X8_trim (l : Launch) (d : Int) (g : Int) (mem : Mem) (hd : i32 d) (hg : i32 g) (hN1 : 0 ≤ mem 1 1 ∧ mem 1 1 ≤ 5) (hN : 0 ≤ mem 1 0 ∧ mem 1 0 ≤ 8) (hVl : ∀ i : Nat, (i : Int) < mem 1 0 → 1 ≤ mem 1 (3 + i) ∧ mem 1 (3 + i) ≤ 500) (hN2 : 0 ≤ mem 1 2 ∧ mem 1 2 ≤ 40) (hR : ∀ b, i32 (mem 1 b)) (hAb : ∀ s : Nat, (s : Int) < mem 1 2 → 0 ≤ abvS (mem 1) s ∧ abvS (mem 1) s ≤ 2500) (hG : ∀ s : Nat, (s : Int) < mem 1 2 → ∀ k : Nat, k < 8 → 0 ≤ sGiven (mem 1) s k ∧ sGiven (mem 1) s k ≤ 5) (hTl : ∀ k : Nat, k < 8 → 0 ≤ mem 1 (11 + k) ∧ mem 1 (11 + k) ≤ 99) : Ret shp l yX8_trim cX8_trim 7 (some .int) 8 [pR 0, pI d, pI g] mem (fun rv mv => ∃ z, rv = some (pI z) ∧ Keep mem mv ∧ z = if (0 ≤ d ∧ d < mem 1 1) ∧ (g = -1 ∨ 0 ≤ g ∧ g < mem 1 0) then (if g = -1 then sumN (fun i => (trimA (mem 1) d (mem 1 2).toNat (shR (mem 1) d (mem 1 2).toNat (fun i => if i < 8 then mem 1 (11 + i) else mem 18 i)) (mem 1 0).toNat (fun i => if i < 8 then mem 1 (11 + i) else mem 18 i)) i * mem 1 (3 + i)) (mem 1 0).toNat else (trimA (mem 1) d (mem 1 2).toNat (shR (mem 1) d (mem 1 2).toNat (fun i => if i < 8 then mem 1 (11 + i) else mem 18 i)) (mem 1 0).toNat (fun i => if i < 8 then mem 1 (11 + i) else mem 18 i)) g.toNat) else -1) := by
  refine ret_of (by decide +kernel) (Nat.le_of_ble_eq_true rfl) (fun X hX F G => ?_)
  show Ok shp X 7 0 [(0, pR 0), (1, pI d), (2, pI g)] [] mem
  refine ok_aload_n F dX8_trim_0 0 rfl ?_
  refine ok_iload_n F dX8_trim_1 1 rfl ?_
  refine ok_callv F [pI d] dX8_trim_2 kM_X8_isDay kI_X8_isDay kV_X8_isDay kL_X8_285 (ci := 8) rfl sh_0 rfl (by decide) (Nat.le_of_ble_eq_true rfl) rfl (m_X8_isDay _ d mem (by omega) (by omega)) ?_
  rintro _ _ ⟨rfl, rfl⟩
  refine ok_if_eq F 21 dX8_trim_5 (by decide) (by first | omega | exact hR _) (fun c_1 => ?_) (fun c_1 => ?_)
  · refine ok_iconst F dX8_trim_21 ?_
    refine ok_iret F G dX8_trim_22 ?_
    exact ⟨_, rfl, Keep.rf _, by rw [if_neg (by omega)]⟩
  · refine ok_iload_n F dX8_trim_8 2 rfl ?_
    refine ok_iconst F dX8_trim_9 ?_
    refine ok_icmp_eq F 23 dX8_trim_10 (by decide) (by first | omega | exact hR _) (by first | omega | exact hR _) (fun c_2 => ?_) (fun c_2 => ?_)
    · refine ok_iconst F dX8_trim_23 ?_
      refine ok_istore_n (lv' := [(3, pI 0), (0, pR 0), (1, pI d), (2, pI g)]) F dX8_trim_24 (by decide) rfl ?_
      have hL_25 : ∀ (n_25 : Nat) (i : Int) (m : Mem), (0 ≤ i ∧ i ≤ 8 ∧ (∀ a, a ≠ 18 → m a = mem a) ∧ ∀ j : Nat, m 18 j = if (j : Int) < i then mem 1 (11 + j) else mem 18 j) → (8 - i).toNat = n_25 → Ok shp X 7 25 [(0, pR 0), (1, pI d), (2, pI g), (3, pI i)] [] m := by
        intro n_25
        induction n_25 using Nat.strongRecOn with
        | _ n_25 ih_25 =>
          intro i m hI_25 hn_25
          obtain ⟨hi0, hi1, hF, hF18⟩ := hI_25
          have hF1 := hF 1 (by decide)
          refine ok_iload_n F dX8_trim_25 3 rfl ?_
          refine ok_bipush F dX8_trim_26 rfl ?_
          refine ok_icmp_ge F 52 dX8_trim_28 (by decide) (by first | omega | exact hR _) (by first | omega | exact hR _) (fun c_3 => ?_) (fun c_3 => ?_)
          · have ew : m 18 = (fun i => if i < 8 then mem 1 (11 + i) else mem 18 i) := by funext j; rw [hF18]; show _ = if j < 8 then mem 1 (11 + j) else mem 18 j; by_cases q : j < 8; (rw [if_pos q, if_pos (by omega)]); (rw [if_neg q, if_neg (by omega)])
            have h1 : m 1 = mem 1 := hF1
            refine ok_aload_n F dX8_trim_52 0 rfl ?_
            refine ok_iload_n F dX8_trim_53 1 rfl ?_
            refine ok_callv F [pI d] dX8_trim_54 kM_X8_shortsOf kI_X8_shortsOf kV_X8_shortsOf kL_X8_332 (ci := 8) rfl sh_0 rfl (by decide) (Nat.le_of_ble_eq_true rfl) rfl (m_X8_shortsOf _ d m (by omega) (by rw [h1]; exact hN) (by rw [h1]; exact hVl) (by rw [h1]; exact hN2) (by rw [h1]; exact hR) (by rw [h1]; exact hAb) (by rw [h1]; exact hG) (fun k hk => by rw [ew]; show 0 ≤ (if k < 8 then mem 1 (11 + k) else mem 18 k) ∧ (if k < 8 then mem 1 (11 + k) else mem 18 k) ≤ 99; rw [if_pos hk]; exact hTl k hk)) ?_
            rintro _ m_5 ⟨z_4, rfl, r_6⟩
            obtain ⟨s1, s2, s3⟩ := id r_6
            have s18 : m_5 18 = m 18 := s1 18 (by decide) (by decide) (by decide) (by decide) (by decide) (by decide) (by decide)
            have hw18 := ew
            have hmo : z_4 = (shR (mem 1) d (mem 1 2).toNat (fun i => if i < 8 then mem 1 (11 + i) else mem 18 i)) := by rw [s3, h1, ← ew]; exact shR_of hN.2 (fun k hk => by unfold cpyN; rw [if_pos (by omega)]; congr 1; omega)
            have hmb := shR_bd (m1 := mem 1) (d := d) (n2 := (mem 1 2).toNat) (w := (fun i => if i < 8 then mem 1 (11 + i) else mem 18 i)) hN.2 (fun k hk => by show 0 ≤ (if k < 8 then mem 1 (11 + k) else mem 18 k) ∧ (if k < 8 then mem 1 (11 + k) else mem 18 k) ≤ 99; rw [if_pos hk]; exact hTl k hk) (fun s hs k hk => (hG s (by omega) k hk).1)
            refine ok_istore_n (lv' := [(3, pI z_4), (0, pR 0), (1, pI d), (2, pI g)]) F dX8_trim_57 (by decide) rfl ?_
            refine ok_iconst F dX8_trim_58 ?_
            refine ok_istore (lv' := [(4, pI 0), (3, pI z_4), (0, pR 0), (1, pI d), (2, pI g)]) F dX8_trim_59 (by decide) rfl ?_
            refine ok_aload_n F dX8_trim_61 2 rfl ?_
            refine ok_getr F dX8_trim_62 kF_X8_9 sh_0 rfl ?_
            refine ok_iconst F dX8_trim_65 ?_
            refine ok_iald (v := mem 1 0) F dX8_trim_66 sh_1 (by first | decide | assumption) (by first | omega | exact hR _) (by first | omega | exact hR _) (by rw [(r_6.1 1 (by decide) (by decide) (by decide) (by decide) (by decide) (by decide) (by decide)), hF1] <;> rfl) ?_
            refine ok_iconst F dX8_trim_67 ?_
            refine ok_isub F dX8_trim_68 ?_
            refine ok_istore (lv' := [(5, pI ((mem 1 0) - 1)), (4, pI 0), (3, pI z_4), (0, pR 0), (1, pI d), (2, pI g)]) F dX8_trim_69 (by decide) rfl ?_
            have hL_71 : ∀ (n_71 : Nat) (wo : Int) (k : Int) (m2 : Mem), (-1 ≤ k ∧ k < mem 1 0 ∧ ((∀ a, a ≠ 0 → a ≠ 8 → a ≠ 9 → a ≠ 11 → a ≠ 14 → a ≠ 15 → a ≠ 16 → a ≠ 18 → m2 a = mem a) ∧ (∀ j, (j < 21 ∨ 26 < j) → m2 0 j = mem 0 j) ∧ (∀ i : Nat, i < 8 → 0 ≤ m2 18 i ∧ m2 18 i ≤ 99)) ∧ (trimA (mem 1) d (mem 1 2).toNat (shR (mem 1) d (mem 1 2).toNat (fun i => if i < 8 then mem 1 (11 + i) else mem 18 i)) (mem 1 0).toNat (fun i => if i < 8 then mem 1 (11 + i) else mem 18 i)) = trimA (mem 1) d (mem 1 2).toNat (shR (mem 1) d (mem 1 2).toNat (fun i => if i < 8 then mem 1 (11 + i) else mem 18 i)) (k + 1).toNat (m2 18) ∧ wo + sumN (fun i => (trimA (mem 1) d (mem 1 2).toNat (shR (mem 1) d (mem 1 2).toNat (fun i => if i < 8 then mem 1 (11 + i) else mem 18 i)) (mem 1 0).toNat (fun i => if i < 8 then mem 1 (11 + i) else mem 18 i)) i * mem 1 (3 + i)) (k + 1).toNat = sumN (fun i => (trimA (mem 1) d (mem 1 2).toNat (shR (mem 1) d (mem 1 2).toNat (fun i => if i < 8 then mem 1 (11 + i) else mem 18 i)) (mem 1 0).toNat (fun i => if i < 8 then mem 1 (11 + i) else mem 18 i)) i * mem 1 (3 + i)) (mem 1 0).toNat ∧ ∀ i : Nat, k < (i : Int) → m2 18 i = (trimA (mem 1) d (mem 1 2).toNat (shR (mem 1) d (mem 1 2).toNat (fun i => if i < 8 then mem 1 (11 + i) else mem 18 i)) (mem 1 0).toNat (fun i => if i < 8 then mem 1 (11 + i) else mem 18 i)) i) → (k + 1).toNat = n_71 → Ok shp X 7 71 [(0, pR 0), (1, pI d), (2, pI g), (3, pI z_4), (4, pI wo), (5, pI k)] [] m2 := by
              intro n_71
              induction n_71 using Nat.strongRecOn with
              | _ n_71 ih_71 =>
                intro wo k m2 hI_71 hn_71
                obtain ⟨hk0, hk1, ⟨hF2, hF20, hw2⟩, hTA, hwo, htop⟩ := hI_71
                have h1 := hF2 1 (by decide) (by decide) (by decide) (by decide) (by decide) (by decide) (by decide) (by decide)
                refine ok_iload F dX8_trim_71 5 rfl ?_
                refine ok_if_lt F 172 dX8_trim_73 (by decide) (by first | omega | exact hR _) (fun c_7 => ?_) (fun c_7 => ?_)
                · refine ok_iload_n F dX8_trim_172 2 rfl ?_
                  refine ok_iconst F dX8_trim_173 ?_
                  refine ok_icmp_ne F 182 dX8_trim_174 (by decide) (by first | omega | exact hR _) (by first | omega | exact hR _) (fun c_8 => ?_) (fun c_8 => ?_)
                  · refine ok_aload_n F dX8_trim_182 0 rfl ?_
                    refine ok_getr F dX8_trim_183 kF_X8_65 sh_0 rfl ?_
                    refine ok_iload_n F dX8_trim_186 2 rfl ?_
                    refine ok_iald (v := m2 18 g.toNat) F dX8_trim_187 sh_18 (by first | decide | assumption) (by first | omega | exact hR _) (by first | omega | exact hR _) rfl ?_
                    refine ok_iret F G dX8_trim_188 ?_
                    refine ⟨_, rfl, ⟨hF2 1 (by decide) (by decide) (by decide) (by decide) (by decide) (by decide) (by decide) (by decide), hF2 3 (by decide) (by decide) (by decide) (by decide) (by decide) (by decide) (by decide) (by decide), hF2 4 (by decide) (by decide) (by decide) (by decide) (by decide) (by decide) (by decide) (by decide), hF2 5 (by decide) (by decide) (by decide) (by decide) (by decide) (by decide) (by decide) (by decide), hF2 6 (by decide) (by decide) (by decide) (by decide) (by decide) (by decide) (by decide) (by decide), hF20 5 (by decide), hF20 7 (by decide), fun q hq => hF2 q (by omega) (by omega) (by omega) (by omega) (by omega) (by omega) (by omega) (by omega), hF20 10 (by decide)⟩, ?_⟩
                    have ek : k = -1 := by omega
                    rw [if_pos (by omega)]
                    first
                      | (rw [if_pos (by omega), ← hwo, ek]; show wo = wo + 0; omega)
                      | (rw [if_neg (by omega)]; exact htop _ (by omega))
                  · refine ok_iload F dX8_trim_177 4 rfl ?_
                    refine ok_goto F 188 dX8_trim_179 (by decide) ?_
                    refine ok_iret F G dX8_trim_188 ?_
                    refine ⟨_, rfl, ⟨hF2 1 (by decide) (by decide) (by decide) (by decide) (by decide) (by decide) (by decide) (by decide), hF2 3 (by decide) (by decide) (by decide) (by decide) (by decide) (by decide) (by decide) (by decide), hF2 4 (by decide) (by decide) (by decide) (by decide) (by decide) (by decide) (by decide) (by decide), hF2 5 (by decide) (by decide) (by decide) (by decide) (by decide) (by decide) (by decide) (by decide), hF2 6 (by decide) (by decide) (by decide) (by decide) (by decide) (by decide) (by decide) (by decide), hF20 5 (by decide), hF20 7 (by decide), fun q hq => hF2 q (by omega) (by omega) (by omega) (by omega) (by omega) (by omega) (by omega) (by omega), hF20 10 (by decide)⟩, ?_⟩
                    have ek : k = -1 := by omega
                    rw [if_pos (by omega)]
                    first
                      | (rw [if_pos (by omega), ← hwo, ek]; show wo = wo + 0; omega)
                      | (rw [if_neg (by omega)]; exact htop _ (by omega))
                · refine ok_iconst F dX8_trim_76 ?_
                  refine ok_istore (lv' := [(6, pI 1), (0, pR 0), (1, pI d), (2, pI g), (3, pI z_4), (4, pI wo), (5, pI k)]) F dX8_trim_77 (by decide) rfl ?_
                  have hL_79 : ∀ (n_79 : Nat) (go : Int) (m3 : Mem), (((∀ a, a ≠ 0 → a ≠ 8 → a ≠ 9 → a ≠ 11 → a ≠ 14 → a ≠ 15 → a ≠ 16 → a ≠ 18 → m3 a = mem a) ∧ (∀ j, (j < 21 ∨ 26 < j) → m3 0 j = mem 0 j) ∧ (∀ i : Nat, i < 8 → 0 ≤ m3 18 i ∧ m3 18 i ≤ 99)) ∧ (go = 1 ∧ trimK (mem 1) d (mem 1 2).toNat (shR (mem 1) d (mem 1 2).toNat (fun i => if i < 8 then mem 1 (11 + i) else mem 18 i)) k.toNat (m2 18 k.toNat).toNat (m2 18) = trimK (mem 1) d (mem 1 2).toNat (shR (mem 1) d (mem 1 2).toNat (fun i => if i < 8 then mem 1 (11 + i) else mem 18 i)) k.toNat (m3 18 k.toNat).toNat (m3 18) ∨ go = 0 ∧ trimK (mem 1) d (mem 1 2).toNat (shR (mem 1) d (mem 1 2).toNat (fun i => if i < 8 then mem 1 (11 + i) else mem 18 i)) k.toNat (m2 18 k.toNat).toNat (m2 18) = m3 18)) → (if go = 1 then m3 18 k.toNat + 1 else 0 : Int).toNat = n_79 → Ok shp X 7 79 [(0, pR 0), (1, pI d), (2, pI g), (3, pI z_4), (4, pI wo), (5, pI k), (6, pI go)] [] m3 := by
                    intro n_79
                    induction n_79 using Nat.strongRecOn with
                    | _ n_79 ih_79 =>
                      intro go m3 hI_79 hn_79
                      obtain ⟨⟨hF3, hF30, hw3⟩, hc3⟩ := hI_79
                      have h13 := hF3 1 (by decide) (by decide) (by decide) (by decide) (by decide) (by decide) (by decide) (by decide)
                      have hwk := hw3 k.toNat (by omega)
                      refine ok_iload F dX8_trim_79 6 rfl ?_
                      refine ok_if_eq F 147 dX8_trim_81 (by decide) (by first | omega | exact hR _) (fun c_9 => ?_) (fun c_9 => ?_)
                      · refine ok_iload F dX8_trim_147 4 rfl ?_
                        refine ok_aload_n F dX8_trim_149 0 rfl ?_
                        refine ok_getr F dX8_trim_150 kF_X8_65 sh_0 rfl ?_
                        refine ok_iload F dX8_trim_153 5 rfl ?_
                        refine ok_iald (v := m3 18 k.toNat) F dX8_trim_155 sh_18 (by first | decide | assumption) (by first | omega | exact hR _) (by first | omega | exact hR _) rfl ?_
                        refine ok_aload_n F dX8_trim_156 0 rfl ?_
                        refine ok_iload F dX8_trim_157 5 rfl ?_
                        refine ok_callv F [pI k] dX8_trim_159 kM_X8_value kI_X8_value kV_X8_value kL_X8_191 (ci := 8) rfl sh_0 rfl (by decide) (Nat.le_of_ble_eq_true rfl) rfl (m_X8_value _ k m3 (by omega)) ?_
                        rintro _ _ ⟨rfl, rfl⟩
                        refine ok_imul F dX8_trim_162 ?_
                        refine ok_iadd F dX8_trim_163 ?_
                        refine ok_istore (lv' := [(4, pI (wo + ((m3 18 k.toNat) * (m3 1 (3 + k).toNat)))), (0, pR 0), (1, pI d), (2, pI g), (3, pI z_4), (5, pI k), (6, pI go)]) F dX8_trim_164 (by decide) rfl ?_
                        refine ok_iinc (lv' := [(5, pI (k + (-1))), (4, pI (wo + ((m3 18 k.toNat) * (m3 1 (3 + k).toNat)))), (0, pR 0), (1, pI d), (2, pI g), (3, pI z_4), (6, pI go)]) F dX8_trim_166 5 rfl (by decide) rfl ?_
                        refine ok_goto F 71 dX8_trim_169 (by decide) ?_
                        refine ok_lvp [2, 3, 4, 5, 1, 0] (lv' := [(0, pR 0), (1, pI d), (2, pI g), (3, pI z_4), (4, pI (wo + ((m3 18 k.toNat) * (m3 1 (3 + k).toNat)))), (5, pI (k + (-1)))]) rfl ?_
                        refine ih_71 _ ?_ (wo + ((m3 18 k.toNat) * (m3 1 (3 + k).toNat))) (k + (-1)) m3 ?_ rfl
                        · omega
                        · have em : m3 18 = trimK (mem 1) d (mem 1 2).toNat (shR (mem 1) d (mem 1 2).toNat (fun i => if i < 8 then mem 1 (11 + i) else mem 18 i)) k.toNat (m2 18 k.toNat).toNat (m2 18) := by
                            rcases hc3 with ⟨z1, z2⟩ | ⟨z1, z2⟩
                            · rw [z2, show (m3 18 k.toNat).toNat = 0 by omega]; rfl
                            · exact z2.symm
                          have hTA2 : (trimA (mem 1) d (mem 1 2).toNat (shR (mem 1) d (mem 1 2).toNat (fun i => if i < 8 then mem 1 (11 + i) else mem 18 i)) (mem 1 0).toNat (fun i => if i < 8 then mem 1 (11 + i) else mem 18 i)) = trimA (mem 1) d (mem 1 2).toNat (shR (mem 1) d (mem 1 2).toNat (fun i => if i < 8 then mem 1 (11 + i) else mem 18 i)) k.toNat (m3 18) := by
                            rw [hTA, show (k + 1).toNat = k.toNat + 1 by omega, em]; rfl
                          have hk3 : m3 18 k.toNat = (trimA (mem 1) d (mem 1 2).toNat (shR (mem 1) d (mem 1 2).toNat (fun i => if i < 8 then mem 1 (11 + i) else mem 18 i)) (mem 1 0).toNat (fun i => if i < 8 then mem 1 (11 + i) else mem 18 i)) k.toNat := by rw [hTA2, trimA_ge _ _ _ _ _ _ _ (Nat.le_refl _)]
                          refine ⟨by omega, by omega, ⟨hF3, hF30, hw3⟩, by rw [show (k + -1 + 1).toNat = k.toNat by omega]; exact hTA2, ?_, fun i hi => ?_⟩
                          · rw [show (k + -1 + 1).toNat = k.toNat by omega, ← hwo, show (k + 1).toNat = k.toNat + 1 by omega, sumN, ← hk3, show 3 + k.toNat = (3 + k).toNat by omega, ← h13]; omega
                          · by_cases e : i = k.toNat
                            · subst e; exact hk3
                            · rw [em, trimK_ne _ _ _ _ _ _ _ _ e]; exact htop i (by omega)
                      · refine ok_aload_n F dX8_trim_84 0 rfl ?_
                        refine ok_getr F dX8_trim_85 kF_X8_65 sh_0 rfl ?_
                        refine ok_iload F dX8_trim_88 5 rfl ?_
                        refine ok_iald (v := m3 18 k.toNat) F dX8_trim_90 sh_18 (by first | decide | assumption) (by first | omega | exact hR _) (by first | omega | exact hR _) rfl ?_
                        refine ok_if_le F 147 dX8_trim_91 (by decide) (by first | omega | exact hR _) (fun c_10 => ?_) (fun c_10 => ?_)
                        · refine ok_iload F dX8_trim_147 4 rfl ?_
                          refine ok_aload_n F dX8_trim_149 0 rfl ?_
                          refine ok_getr F dX8_trim_150 kF_X8_65 sh_0 rfl ?_
                          refine ok_iload F dX8_trim_153 5 rfl ?_
                          refine ok_iald (v := m3 18 k.toNat) F dX8_trim_155 sh_18 (by first | decide | assumption) (by first | omega | exact hR _) (by first | omega | exact hR _) rfl ?_
                          refine ok_aload_n F dX8_trim_156 0 rfl ?_
                          refine ok_iload F dX8_trim_157 5 rfl ?_
                          refine ok_callv F [pI k] dX8_trim_159 kM_X8_value kI_X8_value kV_X8_value kL_X8_191 (ci := 8) rfl sh_0 rfl (by decide) (Nat.le_of_ble_eq_true rfl) rfl (m_X8_value _ k m3 (by omega)) ?_
                          rintro _ _ ⟨rfl, rfl⟩
                          refine ok_imul F dX8_trim_162 ?_
                          refine ok_iadd F dX8_trim_163 ?_
                          refine ok_istore (lv' := [(4, pI (wo + ((m3 18 k.toNat) * (m3 1 (3 + k).toNat)))), (0, pR 0), (1, pI d), (2, pI g), (3, pI z_4), (5, pI k), (6, pI go)]) F dX8_trim_164 (by decide) rfl ?_
                          refine ok_iinc (lv' := [(5, pI (k + (-1))), (4, pI (wo + ((m3 18 k.toNat) * (m3 1 (3 + k).toNat)))), (0, pR 0), (1, pI d), (2, pI g), (3, pI z_4), (6, pI go)]) F dX8_trim_166 5 rfl (by decide) rfl ?_
                          refine ok_goto F 71 dX8_trim_169 (by decide) ?_
                          refine ok_lvp [2, 3, 4, 5, 1, 0] (lv' := [(0, pR 0), (1, pI d), (2, pI g), (3, pI z_4), (4, pI (wo + ((m3 18 k.toNat) * (m3 1 (3 + k).toNat)))), (5, pI (k + (-1)))]) rfl ?_
                          refine ih_71 _ ?_ (wo + ((m3 18 k.toNat) * (m3 1 (3 + k).toNat))) (k + (-1)) m3 ?_ rfl
                          · omega
                          · have em : m3 18 = trimK (mem 1) d (mem 1 2).toNat (shR (mem 1) d (mem 1 2).toNat (fun i => if i < 8 then mem 1 (11 + i) else mem 18 i)) k.toNat (m2 18 k.toNat).toNat (m2 18) := by
                              rcases hc3 with ⟨z1, z2⟩ | ⟨z1, z2⟩
                              · rw [z2, show (m3 18 k.toNat).toNat = 0 by omega]; rfl
                              · exact z2.symm
                            have hTA2 : (trimA (mem 1) d (mem 1 2).toNat (shR (mem 1) d (mem 1 2).toNat (fun i => if i < 8 then mem 1 (11 + i) else mem 18 i)) (mem 1 0).toNat (fun i => if i < 8 then mem 1 (11 + i) else mem 18 i)) = trimA (mem 1) d (mem 1 2).toNat (shR (mem 1) d (mem 1 2).toNat (fun i => if i < 8 then mem 1 (11 + i) else mem 18 i)) k.toNat (m3 18) := by
                              rw [hTA, show (k + 1).toNat = k.toNat + 1 by omega, em]; rfl
                            have hk3 : m3 18 k.toNat = (trimA (mem 1) d (mem 1 2).toNat (shR (mem 1) d (mem 1 2).toNat (fun i => if i < 8 then mem 1 (11 + i) else mem 18 i)) (mem 1 0).toNat (fun i => if i < 8 then mem 1 (11 + i) else mem 18 i)) k.toNat := by rw [hTA2, trimA_ge _ _ _ _ _ _ _ (Nat.le_refl _)]
                            refine ⟨by omega, by omega, ⟨hF3, hF30, hw3⟩, by rw [show (k + -1 + 1).toNat = k.toNat by omega]; exact hTA2, ?_, fun i hi => ?_⟩
                            · rw [show (k + -1 + 1).toNat = k.toNat by omega, ← hwo, show (k + 1).toNat = k.toNat + 1 by omega, sumN, ← hk3, show 3 + k.toNat = (3 + k).toNat by omega, ← h13]; omega
                            · by_cases e : i = k.toNat
                              · subst e; exact hk3
                              · rw [em, trimK_ne _ _ _ _ _ _ _ _ e]; exact htop i (by omega)
                        · refine ok_aload_n F dX8_trim_94 0 rfl ?_
                          refine ok_getr F dX8_trim_95 kF_X8_65 sh_0 rfl ?_
                          refine ok_iload F dX8_trim_98 5 rfl ?_
                          refine ok_dup2 F dX8_trim_100 rfl rfl ?_
                          refine ok_iald (v := m3 18 k.toNat) F dX8_trim_101 sh_18 (by first | decide | assumption) (by first | omega | exact hR _) (by first | omega | exact hR _) rfl ?_
                          refine ok_iconst F dX8_trim_102 ?_
                          refine ok_isub F dX8_trim_103 ?_
                          refine ok_iast F dX8_trim_104 sh_18 (by first | decide | assumption) (by first | omega | exact hR _) (by first | omega | exact hR _) (fun m_11 e_12 => ?_)
                          have ha18 : m_11 18 = rput (m3 18) k.toNat (m3 18 k.toNat - 1) := by funext j; rw [e_12]; unfold rput; by_cases e : j = k.toNat; (rw [if_pos e, e, mset_eq]); (rw [if_neg e, mset_ne (fun q => e q.2)])
                          have haF : ∀ a, a ≠ 18 → m_11 a = m3 a := fun a ha => by rw [e_12]; funext b; exact mset_nk ha
                          have ha1 : m_11 1 = mem 1 := by rw [haF 1 (by decide), h13]
                          refine ok_aload_n F dX8_trim_105 0 rfl ?_
                          refine ok_iload_n F dX8_trim_106 1 rfl ?_
                          refine ok_callv F [pI d] dX8_trim_107 kM_X8_shortsOf kI_X8_shortsOf kV_X8_shortsOf kL_X8_332 (ci := 8) rfl sh_0 rfl (by decide) (Nat.le_of_ble_eq_true rfl) rfl (m_X8_shortsOf _ d m_11 (by omega) (by rw [ha1]; exact hN) (by rw [ha1]; exact hVl) (by rw [ha1]; exact hN2) (by rw [ha1]; exact hR) (by rw [ha1]; exact hAb) (by rw [ha1]; exact hG) (fun j hj => by have := hw3 j hj; rw [ha18]; unfold rput; split <;> omega)) ?_
                          rintro _ m_14 ⟨z_13, rfl, r_15⟩
                          obtain ⟨u1, u2, u3⟩ := id r_15
                          have u18 : m_14 18 = rput (m3 18) k.toNat (m3 18 k.toNat - 1) := by rw [u1 18 (by decide) (by decide) (by decide) (by decide) (by decide) (by decide) (by decide), ha18]
                          have hz2 : z_13 = shR (mem 1) d (mem 1 2).toNat (rput (m3 18) k.toNat (m3 18 k.toNat - 1)) := by rw [u3, ha1]; exact shR_of hN.2 (fun j hj => by unfold cpyN; rw [if_pos (by omega), ha18]; congr 1; omega)
                          have hzb := shR_bd (m1 := mem 1) (d := d) (n2 := (mem 1 2).toNat) (w := rput (m3 18) k.toNat (m3 18 k.toNat - 1)) hN.2 (fun j hj => by have := hw3 j hj; unfold rput; split <;> omega) (fun s hs j hj => (hG s (by omega) j hj).1)
                          refine ok_iload_n F dX8_trim_110 3 rfl ?_
                          refine ok_icmp_gt F 118 dX8_trim_111 (by decide) (by first | omega | exact hR _) (by first | omega | exact hR _) (fun c_16 => ?_) (fun c_16 => ?_)
                          · refine ok_iconst F dX8_trim_118 ?_
                            refine ok_istore (lv' := [(6, pI 0), (0, pR 0), (1, pI d), (2, pI g), (3, pI z_4), (4, pI wo), (5, pI k)]) F dX8_trim_119 (by decide) rfl ?_
                            refine ok_aload_n F dX8_trim_121 1 rfl ?_
                            refine ok_getr F dX8_trim_122 kF_X8_65 sh_0 rfl ?_
                            refine ok_iload F dX8_trim_125 6 rfl ?_
                            refine ok_dup2 F dX8_trim_127 rfl rfl ?_
                            refine ok_iald (v := m_14 18 k.toNat) F dX8_trim_128 sh_18 (by first | decide | assumption) (by first | omega | exact hR _) (by first | omega | exact hR _) rfl ?_
                            refine ok_iload F dX8_trim_129 0 rfl ?_
                            refine ok_if_ne F 138 dX8_trim_131 (by decide) (by first | omega | exact hR _) (fun c_17 => ?_) (fun c_17 => ?_)
                            · exfalso; omega
                            · refine ok_iconst F dX8_trim_134 ?_
                              refine ok_goto F 139 dX8_trim_135 (by decide) ?_
                              refine ok_calls F [pI 1] dX8_trim_139 kM_X8_truth kS_X8_truth kL_X8_137 rfl (by decide) (Nat.le_of_ble_eq_true rfl) rfl (m_X8_truth _ 1 m_14 (by omega)) ?_
                              rintro _ _ ⟨rfl, rfl⟩
                              refine ok_iadd F dX8_trim_142 ?_
                              refine ok_iast F dX8_trim_143 sh_18 (by first | decide | assumption) (by first | omega | exact hR _) (by first | omega | exact hR _) (fun m_18 e_19 => ?_)
                              refine ok_goto F 79 dX8_trim_144 (by decide) ?_
                              refine ok_lvp [1, 2, 3, 4, 5, 6, 0] (lv' := [(0, pR 0), (1, pI d), (2, pI g), (3, pI z_4), (4, pI wo), (5, pI k), (6, pI 0)]) rfl ?_
                              refine ih_79 _ ?_ 0 m_18 ?_ rfl
                              · (have hg1 : go = 1 := by rcases hc3 with z | z <;> omega)
                                have e1k : m_18 18 k.toNat = m3 18 k.toNat - 1 ∨ m_18 18 k.toNat = m3 18 k.toNat := by rw [e_19, mset_eq, u18]; unfold rput; rw [if_pos rfl]; omega
                                first | omega | (rcases e1k with z | z <;> omega) | (rw [e_19, mset_eq, u18]; unfold rput; rw [if_pos rfl]; omega)
                              · have hg1 : go = 1 := by rcases hc3 with z | z <;> omega
                                have hcl := (hc3.resolve_right (fun z => by omega)).2
                                have hf1 : (m3 18 k.toNat).toNat = (m3 18 k.toNat - 1).toNat + 1 := by omega
                                rw [hf1, trimK_s] at hcl
                                refine ⟨⟨fun a a0 a1 a2 a3 a4 a5 a6 a7 => by rw [← hF3 a a0 a1 a2 a3 a4 a5 a6 a7, ← haF a a7, ← u1 a a0 a1 a2 a3 a4 a5 a6, e_19]; funext b; exact mset_nk a7, fun j hj => by rw [e_19, mset_nk (by decide), u2 j hj, haF 0 (by decide), hF30 j hj], fun j hj => ?_⟩, ?_⟩
                                · have := hw3 j hj
                                  rw [e_19]
                                  by_cases e : j = k.toNat
                                  · subst e; rw [mset_eq, u18]; unfold rput; rw [if_pos rfl]; omega
                                  · rw [mset_ne (fun q => e q.2), u18]; unfold rput; rw [if_neg e]; exact this
                                · first
                                  | (have em : m_18 18 = rput (m3 18) k.toNat (m3 18 k.toNat - 1) := by { funext j; rw [e_19]; by_cases e : j = k.toNat; { subst e; rw [mset_eq, u18]; unfold rput; rw [if_pos rfl]; omega }; { rw [mset_ne (fun q => e q.2), u18] } }
                                     left; refine ⟨rfl, ?_⟩; rw [hcl, if_pos (by omega), em]; congr 2; unfold rput; rw [if_pos rfl])
                                  | (have em : m_18 18 = m3 18 := by { funext j; rw [e_19]; by_cases e : j = k.toNat; { subst e; rw [mset_eq, u18]; unfold rput; rw [if_pos rfl]; omega }; { rw [mset_ne (fun q => e q.2), u18]; unfold rput; rw [if_neg e] } }
                                     right; refine ⟨rfl, ?_⟩; rw [hcl, if_neg (by omega), em])
                          · refine ok_iconst F dX8_trim_114 ?_
                            refine ok_goto F 119 dX8_trim_115 (by decide) ?_
                            refine ok_istore (lv' := [(6, pI 1), (0, pR 0), (1, pI d), (2, pI g), (3, pI z_4), (4, pI wo), (5, pI k)]) F dX8_trim_119 (by decide) rfl ?_
                            refine ok_aload_n F dX8_trim_121 1 rfl ?_
                            refine ok_getr F dX8_trim_122 kF_X8_65 sh_0 rfl ?_
                            refine ok_iload F dX8_trim_125 6 rfl ?_
                            refine ok_dup2 F dX8_trim_127 rfl rfl ?_
                            refine ok_iald (v := m_14 18 k.toNat) F dX8_trim_128 sh_18 (by first | decide | assumption) (by first | omega | exact hR _) (by first | omega | exact hR _) rfl ?_
                            refine ok_iload F dX8_trim_129 0 rfl ?_
                            refine ok_if_ne F 138 dX8_trim_131 (by decide) (by first | omega | exact hR _) (fun c_20 => ?_) (fun c_20 => ?_)
                            · refine ok_iconst F dX8_trim_138 ?_
                              refine ok_calls F [pI 0] dX8_trim_139 kM_X8_truth kS_X8_truth kL_X8_137 rfl (by decide) (Nat.le_of_ble_eq_true rfl) rfl (m_X8_truth _ 0 m_14 (by omega)) ?_
                              rintro _ _ ⟨rfl, rfl⟩
                              refine ok_iadd F dX8_trim_142 ?_
                              refine ok_iast F dX8_trim_143 sh_18 (by first | decide | assumption) (by first | omega | exact hR _) (by first | omega | exact hR _) (fun m_21 e_22 => ?_)
                              refine ok_goto F 79 dX8_trim_144 (by decide) ?_
                              refine ok_lvp [1, 2, 3, 4, 5, 6, 0] (lv' := [(0, pR 0), (1, pI d), (2, pI g), (3, pI z_4), (4, pI wo), (5, pI k), (6, pI 1)]) rfl ?_
                              refine ih_79 _ ?_ 1 m_21 ?_ rfl
                              · (have hg1 : go = 1 := by rcases hc3 with z | z <;> omega)
                                have e1k : m_21 18 k.toNat = m3 18 k.toNat - 1 ∨ m_21 18 k.toNat = m3 18 k.toNat := by rw [e_22, mset_eq, u18]; unfold rput; rw [if_pos rfl]; omega
                                first | omega | (rcases e1k with z | z <;> omega) | (rw [e_22, mset_eq, u18]; unfold rput; rw [if_pos rfl]; omega)
                              · have hg1 : go = 1 := by rcases hc3 with z | z <;> omega
                                have hcl := (hc3.resolve_right (fun z => by omega)).2
                                have hf1 : (m3 18 k.toNat).toNat = (m3 18 k.toNat - 1).toNat + 1 := by omega
                                rw [hf1, trimK_s] at hcl
                                refine ⟨⟨fun a a0 a1 a2 a3 a4 a5 a6 a7 => by rw [← hF3 a a0 a1 a2 a3 a4 a5 a6 a7, ← haF a a7, ← u1 a a0 a1 a2 a3 a4 a5 a6, e_22]; funext b; exact mset_nk a7, fun j hj => by rw [e_22, mset_nk (by decide), u2 j hj, haF 0 (by decide), hF30 j hj], fun j hj => ?_⟩, ?_⟩
                                · have := hw3 j hj
                                  rw [e_22]
                                  by_cases e : j = k.toNat
                                  · subst e; rw [mset_eq, u18]; unfold rput; rw [if_pos rfl]; omega
                                  · rw [mset_ne (fun q => e q.2), u18]; unfold rput; rw [if_neg e]; exact this
                                · first
                                  | (have em : m_21 18 = rput (m3 18) k.toNat (m3 18 k.toNat - 1) := by { funext j; rw [e_22]; by_cases e : j = k.toNat; { subst e; rw [mset_eq, u18]; unfold rput; rw [if_pos rfl]; omega }; { rw [mset_ne (fun q => e q.2), u18] } }
                                     left; refine ⟨rfl, ?_⟩; rw [hcl, if_pos (by omega), em]; congr 2; unfold rput; rw [if_pos rfl])
                                  | (have em : m_21 18 = m3 18 := by { funext j; rw [e_22]; by_cases e : j = k.toNat; { subst e; rw [mset_eq, u18]; unfold rput; rw [if_pos rfl]; omega }; { rw [mset_ne (fun q => e q.2), u18]; unfold rput; rw [if_neg e] } }
                                     right; refine ⟨rfl, ?_⟩; rw [hcl, if_neg (by omega), em])
                            · exfalso; omega
                  refine ok_lvp [1, 2, 3, 4, 5, 6, 0] (lv' := [(0, pR 0), (1, pI d), (2, pI g), (3, pI z_4), (4, pI wo), (5, pI k), (6, pI 1)]) rfl ?_
                  refine hL_79 _ 1 m2 ?_ rfl
                  exact ⟨⟨hF2, hF20, hw2⟩, Or.inl ⟨rfl, rfl⟩⟩
            refine ok_lvp [3, 4, 5, 2, 1, 0] (lv' := [(0, pR 0), (1, pI d), (2, pI g), (3, pI z_4), (4, pI 0), (5, pI ((mem 1 0) - 1))]) rfl ?_
            refine hL_71 _ 0 ((mem 1 0) - 1) m_5 ?_ rfl
            refine ⟨by omega, by omega, ⟨fun a a0 a1 a2 a3 a4 a5 a6 a7 => by rw [s1 a a0 a1 a2 a3 a4 a5 a6, hF a a7], fun j hj => by rw [s2 j hj, hF 0 (by decide)], fun j hj => by rw [s18, hw18]; show 0 ≤ (if j < 8 then mem 1 (11 + j) else mem 18 j) ∧ (if j < 8 then mem 1 (11 + j) else mem 18 j) ≤ 99; rw [if_pos hj]; exact hTl j hj⟩, ?_, ?_, fun j hj => ?_⟩
            · rw [s18, hw18, show (mem 1 0 - 1 + 1).toNat = (mem 1 0).toNat by omega]
            · rw [show (mem 1 0 - 1 + 1).toNat = (mem 1 0).toNat by omega]; omega
            · rw [s18, hw18, trimA_ge _ _ _ _ _ _ _ (by omega)]
          · refine ok_aload_n F dX8_trim_31 0 rfl ?_
            refine ok_getr F dX8_trim_32 kF_X8_65 sh_0 rfl ?_
            refine ok_iload_n F dX8_trim_35 3 rfl ?_
            refine ok_aload_n F dX8_trim_36 0 rfl ?_
            refine ok_getr F dX8_trim_37 kF_X8_9 sh_0 rfl ?_
            refine ok_bipush F dX8_trim_40 rfl ?_
            refine ok_iload_n F dX8_trim_42 3 rfl ?_
            refine ok_iadd F dX8_trim_43 ?_
            refine ok_iald (v := mem 1 ((11 + i).toNat)) F dX8_trim_44 sh_1 (by first | decide | assumption) (by first | omega | exact hR _) (by first | omega | exact hR _) (by rw [hF1] <;> rfl) ?_
            refine ok_iast F dX8_trim_45 sh_18 (by first | decide | assumption) (by first | omega | exact hR _) (by first | omega | exact hR _) (fun m_23 e_24 => ?_)
            refine ok_iinc (lv' := [(3, pI (i + 1)), (0, pR 0), (1, pI d), (2, pI g)]) F dX8_trim_46 3 rfl (by decide) rfl ?_
            refine ok_goto F 25 dX8_trim_49 (by decide) ?_
            refine ok_lvp [1, 2, 3, 0] (lv' := [(0, pR 0), (1, pI d), (2, pI g), (3, pI (i + 1))]) rfl ?_
            refine ih_25 _ ?_ (i + 1) m_23 ?_ rfl
            · omega
            · refine ⟨by omega, by omega, fun a a1 => by rw [← hF a a1, e_24]; funext b; exact mset_nk a1, fun j => ?_⟩
              rw [e_24]
              by_cases e : j = i.toNat
              · subst e; rw [mset_eq, if_pos (by omega), show (11 + i).toNat = 11 + i.toNat by omega]
              · rw [mset_ne (fun q => e q.2), hF18]; by_cases g : (j : Int) < i
                · rw [if_pos g, if_pos (by omega)]
                · rw [if_neg g, if_neg (by omega)]
      refine ok_lvp [1, 2, 3, 0] (lv' := [(0, pR 0), (1, pI d), (2, pI g), (3, pI 0)]) rfl ?_
      refine hL_25 _ 0 mem ?_ rfl
      exact ⟨by omega, by omega, fun _ _ => rfl, fun j => (if_neg (by omega)).symm⟩
    · refine ok_aload_n F dX8_trim_13 0 rfl ?_
      refine ok_iload_n F dX8_trim_14 2 rfl ?_
      refine ok_callv F [pI g] dX8_trim_15 kM_X8_isKind kI_X8_isKind kV_X8_isKind kL_X8_215 (ci := 8) rfl sh_0 rfl (by decide) (Nat.le_of_ble_eq_true rfl) rfl (m_X8_isKind _ g mem (by omega) (by omega)) ?_
      rintro _ _ ⟨rfl, rfl⟩
      refine ok_if_ne F 23 dX8_trim_18 (by decide) (by first | omega | exact hR _) (fun c_25 => ?_) (fun c_25 => ?_)
      · refine ok_iconst F dX8_trim_23 ?_
        refine ok_istore_n (lv' := [(3, pI 0), (0, pR 0), (1, pI d), (2, pI g)]) F dX8_trim_24 (by decide) rfl ?_
        have hL_25 : ∀ (n_25 : Nat) (i : Int) (m : Mem), (0 ≤ i ∧ i ≤ 8 ∧ (∀ a, a ≠ 18 → m a = mem a) ∧ ∀ j : Nat, m 18 j = if (j : Int) < i then mem 1 (11 + j) else mem 18 j) → (8 - i).toNat = n_25 → Ok shp X 7 25 [(0, pR 0), (1, pI d), (2, pI g), (3, pI i)] [] m := by
          intro n_25
          induction n_25 using Nat.strongRecOn with
          | _ n_25 ih_25 =>
            intro i m hI_25 hn_25
            obtain ⟨hi0, hi1, hF, hF18⟩ := hI_25
            have hF1 := hF 1 (by decide)
            refine ok_iload_n F dX8_trim_25 3 rfl ?_
            refine ok_bipush F dX8_trim_26 rfl ?_
            refine ok_icmp_ge F 52 dX8_trim_28 (by decide) (by first | omega | exact hR _) (by first | omega | exact hR _) (fun c_26 => ?_) (fun c_26 => ?_)
            · have ew : m 18 = (fun i => if i < 8 then mem 1 (11 + i) else mem 18 i) := by funext j; rw [hF18]; show _ = if j < 8 then mem 1 (11 + j) else mem 18 j; by_cases q : j < 8; (rw [if_pos q, if_pos (by omega)]); (rw [if_neg q, if_neg (by omega)])
              have h1 : m 1 = mem 1 := hF1
              refine ok_aload_n F dX8_trim_52 0 rfl ?_
              refine ok_iload_n F dX8_trim_53 1 rfl ?_
              refine ok_callv F [pI d] dX8_trim_54 kM_X8_shortsOf kI_X8_shortsOf kV_X8_shortsOf kL_X8_332 (ci := 8) rfl sh_0 rfl (by decide) (Nat.le_of_ble_eq_true rfl) rfl (m_X8_shortsOf _ d m (by omega) (by rw [h1]; exact hN) (by rw [h1]; exact hVl) (by rw [h1]; exact hN2) (by rw [h1]; exact hR) (by rw [h1]; exact hAb) (by rw [h1]; exact hG) (fun k hk => by rw [ew]; show 0 ≤ (if k < 8 then mem 1 (11 + k) else mem 18 k) ∧ (if k < 8 then mem 1 (11 + k) else mem 18 k) ≤ 99; rw [if_pos hk]; exact hTl k hk)) ?_
              rintro _ m_28 ⟨z_27, rfl, r_29⟩
              obtain ⟨s1, s2, s3⟩ := id r_29
              have s18 : m_28 18 = m 18 := s1 18 (by decide) (by decide) (by decide) (by decide) (by decide) (by decide) (by decide)
              have hw18 := ew
              have hmo : z_27 = (shR (mem 1) d (mem 1 2).toNat (fun i => if i < 8 then mem 1 (11 + i) else mem 18 i)) := by rw [s3, h1, ← ew]; exact shR_of hN.2 (fun k hk => by unfold cpyN; rw [if_pos (by omega)]; congr 1; omega)
              have hmb := shR_bd (m1 := mem 1) (d := d) (n2 := (mem 1 2).toNat) (w := (fun i => if i < 8 then mem 1 (11 + i) else mem 18 i)) hN.2 (fun k hk => by show 0 ≤ (if k < 8 then mem 1 (11 + k) else mem 18 k) ∧ (if k < 8 then mem 1 (11 + k) else mem 18 k) ≤ 99; rw [if_pos hk]; exact hTl k hk) (fun s hs k hk => (hG s (by omega) k hk).1)
              refine ok_istore_n (lv' := [(3, pI z_27), (0, pR 0), (1, pI d), (2, pI g)]) F dX8_trim_57 (by decide) rfl ?_
              refine ok_iconst F dX8_trim_58 ?_
              refine ok_istore (lv' := [(4, pI 0), (3, pI z_27), (0, pR 0), (1, pI d), (2, pI g)]) F dX8_trim_59 (by decide) rfl ?_
              refine ok_aload_n F dX8_trim_61 2 rfl ?_
              refine ok_getr F dX8_trim_62 kF_X8_9 sh_0 rfl ?_
              refine ok_iconst F dX8_trim_65 ?_
              refine ok_iald (v := mem 1 0) F dX8_trim_66 sh_1 (by first | decide | assumption) (by first | omega | exact hR _) (by first | omega | exact hR _) (by rw [(r_29.1 1 (by decide) (by decide) (by decide) (by decide) (by decide) (by decide) (by decide)), hF1] <;> rfl) ?_
              refine ok_iconst F dX8_trim_67 ?_
              refine ok_isub F dX8_trim_68 ?_
              refine ok_istore (lv' := [(5, pI ((mem 1 0) - 1)), (4, pI 0), (3, pI z_27), (0, pR 0), (1, pI d), (2, pI g)]) F dX8_trim_69 (by decide) rfl ?_
              have hL_71 : ∀ (n_71 : Nat) (wo : Int) (k : Int) (m2 : Mem), (-1 ≤ k ∧ k < mem 1 0 ∧ ((∀ a, a ≠ 0 → a ≠ 8 → a ≠ 9 → a ≠ 11 → a ≠ 14 → a ≠ 15 → a ≠ 16 → a ≠ 18 → m2 a = mem a) ∧ (∀ j, (j < 21 ∨ 26 < j) → m2 0 j = mem 0 j) ∧ (∀ i : Nat, i < 8 → 0 ≤ m2 18 i ∧ m2 18 i ≤ 99)) ∧ (trimA (mem 1) d (mem 1 2).toNat (shR (mem 1) d (mem 1 2).toNat (fun i => if i < 8 then mem 1 (11 + i) else mem 18 i)) (mem 1 0).toNat (fun i => if i < 8 then mem 1 (11 + i) else mem 18 i)) = trimA (mem 1) d (mem 1 2).toNat (shR (mem 1) d (mem 1 2).toNat (fun i => if i < 8 then mem 1 (11 + i) else mem 18 i)) (k + 1).toNat (m2 18) ∧ wo + sumN (fun i => (trimA (mem 1) d (mem 1 2).toNat (shR (mem 1) d (mem 1 2).toNat (fun i => if i < 8 then mem 1 (11 + i) else mem 18 i)) (mem 1 0).toNat (fun i => if i < 8 then mem 1 (11 + i) else mem 18 i)) i * mem 1 (3 + i)) (k + 1).toNat = sumN (fun i => (trimA (mem 1) d (mem 1 2).toNat (shR (mem 1) d (mem 1 2).toNat (fun i => if i < 8 then mem 1 (11 + i) else mem 18 i)) (mem 1 0).toNat (fun i => if i < 8 then mem 1 (11 + i) else mem 18 i)) i * mem 1 (3 + i)) (mem 1 0).toNat ∧ ∀ i : Nat, k < (i : Int) → m2 18 i = (trimA (mem 1) d (mem 1 2).toNat (shR (mem 1) d (mem 1 2).toNat (fun i => if i < 8 then mem 1 (11 + i) else mem 18 i)) (mem 1 0).toNat (fun i => if i < 8 then mem 1 (11 + i) else mem 18 i)) i) → (k + 1).toNat = n_71 → Ok shp X 7 71 [(0, pR 0), (1, pI d), (2, pI g), (3, pI z_27), (4, pI wo), (5, pI k)] [] m2 := by
                intro n_71
                induction n_71 using Nat.strongRecOn with
                | _ n_71 ih_71 =>
                  intro wo k m2 hI_71 hn_71
                  obtain ⟨hk0, hk1, ⟨hF2, hF20, hw2⟩, hTA, hwo, htop⟩ := hI_71
                  have h1 := hF2 1 (by decide) (by decide) (by decide) (by decide) (by decide) (by decide) (by decide) (by decide)
                  refine ok_iload F dX8_trim_71 5 rfl ?_
                  refine ok_if_lt F 172 dX8_trim_73 (by decide) (by first | omega | exact hR _) (fun c_30 => ?_) (fun c_30 => ?_)
                  · refine ok_iload_n F dX8_trim_172 2 rfl ?_
                    refine ok_iconst F dX8_trim_173 ?_
                    refine ok_icmp_ne F 182 dX8_trim_174 (by decide) (by first | omega | exact hR _) (by first | omega | exact hR _) (fun c_31 => ?_) (fun c_31 => ?_)
                    · refine ok_aload_n F dX8_trim_182 0 rfl ?_
                      refine ok_getr F dX8_trim_183 kF_X8_65 sh_0 rfl ?_
                      refine ok_iload_n F dX8_trim_186 2 rfl ?_
                      refine ok_iald (v := m2 18 g.toNat) F dX8_trim_187 sh_18 (by first | decide | assumption) (by first | omega | exact hR _) (by first | omega | exact hR _) rfl ?_
                      refine ok_iret F G dX8_trim_188 ?_
                      refine ⟨_, rfl, ⟨hF2 1 (by decide) (by decide) (by decide) (by decide) (by decide) (by decide) (by decide) (by decide), hF2 3 (by decide) (by decide) (by decide) (by decide) (by decide) (by decide) (by decide) (by decide), hF2 4 (by decide) (by decide) (by decide) (by decide) (by decide) (by decide) (by decide) (by decide), hF2 5 (by decide) (by decide) (by decide) (by decide) (by decide) (by decide) (by decide) (by decide), hF2 6 (by decide) (by decide) (by decide) (by decide) (by decide) (by decide) (by decide) (by decide), hF20 5 (by decide), hF20 7 (by decide), fun q hq => hF2 q (by omega) (by omega) (by omega) (by omega) (by omega) (by omega) (by omega) (by omega), hF20 10 (by decide)⟩, ?_⟩
                      have ek : k = -1 := by omega
                      rw [if_pos (by omega)]
                      first
                        | (rw [if_pos (by omega), ← hwo, ek]; show wo = wo + 0; omega)
                        | (rw [if_neg (by omega)]; exact htop _ (by omega))
                    · refine ok_iload F dX8_trim_177 4 rfl ?_
                      refine ok_goto F 188 dX8_trim_179 (by decide) ?_
                      refine ok_iret F G dX8_trim_188 ?_
                      refine ⟨_, rfl, ⟨hF2 1 (by decide) (by decide) (by decide) (by decide) (by decide) (by decide) (by decide) (by decide), hF2 3 (by decide) (by decide) (by decide) (by decide) (by decide) (by decide) (by decide) (by decide), hF2 4 (by decide) (by decide) (by decide) (by decide) (by decide) (by decide) (by decide) (by decide), hF2 5 (by decide) (by decide) (by decide) (by decide) (by decide) (by decide) (by decide) (by decide), hF2 6 (by decide) (by decide) (by decide) (by decide) (by decide) (by decide) (by decide) (by decide), hF20 5 (by decide), hF20 7 (by decide), fun q hq => hF2 q (by omega) (by omega) (by omega) (by omega) (by omega) (by omega) (by omega) (by omega), hF20 10 (by decide)⟩, ?_⟩
                      have ek : k = -1 := by omega
                      rw [if_pos (by omega)]
                      first
                        | (rw [if_pos (by omega), ← hwo, ek]; show wo = wo + 0; omega)
                        | (rw [if_neg (by omega)]; exact htop _ (by omega))
                  · refine ok_iconst F dX8_trim_76 ?_
                    refine ok_istore (lv' := [(6, pI 1), (0, pR 0), (1, pI d), (2, pI g), (3, pI z_27), (4, pI wo), (5, pI k)]) F dX8_trim_77 (by decide) rfl ?_
                    have hL_79 : ∀ (n_79 : Nat) (go : Int) (m3 : Mem), (((∀ a, a ≠ 0 → a ≠ 8 → a ≠ 9 → a ≠ 11 → a ≠ 14 → a ≠ 15 → a ≠ 16 → a ≠ 18 → m3 a = mem a) ∧ (∀ j, (j < 21 ∨ 26 < j) → m3 0 j = mem 0 j) ∧ (∀ i : Nat, i < 8 → 0 ≤ m3 18 i ∧ m3 18 i ≤ 99)) ∧ (go = 1 ∧ trimK (mem 1) d (mem 1 2).toNat (shR (mem 1) d (mem 1 2).toNat (fun i => if i < 8 then mem 1 (11 + i) else mem 18 i)) k.toNat (m2 18 k.toNat).toNat (m2 18) = trimK (mem 1) d (mem 1 2).toNat (shR (mem 1) d (mem 1 2).toNat (fun i => if i < 8 then mem 1 (11 + i) else mem 18 i)) k.toNat (m3 18 k.toNat).toNat (m3 18) ∨ go = 0 ∧ trimK (mem 1) d (mem 1 2).toNat (shR (mem 1) d (mem 1 2).toNat (fun i => if i < 8 then mem 1 (11 + i) else mem 18 i)) k.toNat (m2 18 k.toNat).toNat (m2 18) = m3 18)) → (if go = 1 then m3 18 k.toNat + 1 else 0 : Int).toNat = n_79 → Ok shp X 7 79 [(0, pR 0), (1, pI d), (2, pI g), (3, pI z_27), (4, pI wo), (5, pI k), (6, pI go)] [] m3 := by
                      intro n_79
                      induction n_79 using Nat.strongRecOn with
                      | _ n_79 ih_79 =>
                        intro go m3 hI_79 hn_79
                        obtain ⟨⟨hF3, hF30, hw3⟩, hc3⟩ := hI_79
                        have h13 := hF3 1 (by decide) (by decide) (by decide) (by decide) (by decide) (by decide) (by decide) (by decide)
                        have hwk := hw3 k.toNat (by omega)
                        refine ok_iload F dX8_trim_79 6 rfl ?_
                        refine ok_if_eq F 147 dX8_trim_81 (by decide) (by first | omega | exact hR _) (fun c_32 => ?_) (fun c_32 => ?_)
                        · refine ok_iload F dX8_trim_147 4 rfl ?_
                          refine ok_aload_n F dX8_trim_149 0 rfl ?_
                          refine ok_getr F dX8_trim_150 kF_X8_65 sh_0 rfl ?_
                          refine ok_iload F dX8_trim_153 5 rfl ?_
                          refine ok_iald (v := m3 18 k.toNat) F dX8_trim_155 sh_18 (by first | decide | assumption) (by first | omega | exact hR _) (by first | omega | exact hR _) rfl ?_
                          refine ok_aload_n F dX8_trim_156 0 rfl ?_
                          refine ok_iload F dX8_trim_157 5 rfl ?_
                          refine ok_callv F [pI k] dX8_trim_159 kM_X8_value kI_X8_value kV_X8_value kL_X8_191 (ci := 8) rfl sh_0 rfl (by decide) (Nat.le_of_ble_eq_true rfl) rfl (m_X8_value _ k m3 (by omega)) ?_
                          rintro _ _ ⟨rfl, rfl⟩
                          refine ok_imul F dX8_trim_162 ?_
                          refine ok_iadd F dX8_trim_163 ?_
                          refine ok_istore (lv' := [(4, pI (wo + ((m3 18 k.toNat) * (m3 1 (3 + k).toNat)))), (0, pR 0), (1, pI d), (2, pI g), (3, pI z_27), (5, pI k), (6, pI go)]) F dX8_trim_164 (by decide) rfl ?_
                          refine ok_iinc (lv' := [(5, pI (k + (-1))), (4, pI (wo + ((m3 18 k.toNat) * (m3 1 (3 + k).toNat)))), (0, pR 0), (1, pI d), (2, pI g), (3, pI z_27), (6, pI go)]) F dX8_trim_166 5 rfl (by decide) rfl ?_
                          refine ok_goto F 71 dX8_trim_169 (by decide) ?_
                          refine ok_lvp [2, 3, 4, 5, 1, 0] (lv' := [(0, pR 0), (1, pI d), (2, pI g), (3, pI z_27), (4, pI (wo + ((m3 18 k.toNat) * (m3 1 (3 + k).toNat)))), (5, pI (k + (-1)))]) rfl ?_
                          refine ih_71 _ ?_ (wo + ((m3 18 k.toNat) * (m3 1 (3 + k).toNat))) (k + (-1)) m3 ?_ rfl
                          · omega
                          · have em : m3 18 = trimK (mem 1) d (mem 1 2).toNat (shR (mem 1) d (mem 1 2).toNat (fun i => if i < 8 then mem 1 (11 + i) else mem 18 i)) k.toNat (m2 18 k.toNat).toNat (m2 18) := by
                              rcases hc3 with ⟨z1, z2⟩ | ⟨z1, z2⟩
                              · rw [z2, show (m3 18 k.toNat).toNat = 0 by omega]; rfl
                              · exact z2.symm
                            have hTA2 : (trimA (mem 1) d (mem 1 2).toNat (shR (mem 1) d (mem 1 2).toNat (fun i => if i < 8 then mem 1 (11 + i) else mem 18 i)) (mem 1 0).toNat (fun i => if i < 8 then mem 1 (11 + i) else mem 18 i)) = trimA (mem 1) d (mem 1 2).toNat (shR (mem 1) d (mem 1 2).toNat (fun i => if i < 8 then mem 1 (11 + i) else mem 18 i)) k.toNat (m3 18) := by
                              rw [hTA, show (k + 1).toNat = k.toNat + 1 by omega, em]; rfl
                            have hk3 : m3 18 k.toNat = (trimA (mem 1) d (mem 1 2).toNat (shR (mem 1) d (mem 1 2).toNat (fun i => if i < 8 then mem 1 (11 + i) else mem 18 i)) (mem 1 0).toNat (fun i => if i < 8 then mem 1 (11 + i) else mem 18 i)) k.toNat := by rw [hTA2, trimA_ge _ _ _ _ _ _ _ (Nat.le_refl _)]
                            refine ⟨by omega, by omega, ⟨hF3, hF30, hw3⟩, by rw [show (k + -1 + 1).toNat = k.toNat by omega]; exact hTA2, ?_, fun i hi => ?_⟩
                            · rw [show (k + -1 + 1).toNat = k.toNat by omega, ← hwo, show (k + 1).toNat = k.toNat + 1 by omega, sumN, ← hk3, show 3 + k.toNat = (3 + k).toNat by omega, ← h13]; omega
                            · by_cases e : i = k.toNat
                              · subst e; exact hk3
                              · rw [em, trimK_ne _ _ _ _ _ _ _ _ e]; exact htop i (by omega)
                        · refine ok_aload_n F dX8_trim_84 0 rfl ?_
                          refine ok_getr F dX8_trim_85 kF_X8_65 sh_0 rfl ?_
                          refine ok_iload F dX8_trim_88 5 rfl ?_
                          refine ok_iald (v := m3 18 k.toNat) F dX8_trim_90 sh_18 (by first | decide | assumption) (by first | omega | exact hR _) (by first | omega | exact hR _) rfl ?_
                          refine ok_if_le F 147 dX8_trim_91 (by decide) (by first | omega | exact hR _) (fun c_33 => ?_) (fun c_33 => ?_)
                          · refine ok_iload F dX8_trim_147 4 rfl ?_
                            refine ok_aload_n F dX8_trim_149 0 rfl ?_
                            refine ok_getr F dX8_trim_150 kF_X8_65 sh_0 rfl ?_
                            refine ok_iload F dX8_trim_153 5 rfl ?_
                            refine ok_iald (v := m3 18 k.toNat) F dX8_trim_155 sh_18 (by first | decide | assumption) (by first | omega | exact hR _) (by first | omega | exact hR _) rfl ?_
                            refine ok_aload_n F dX8_trim_156 0 rfl ?_
                            refine ok_iload F dX8_trim_157 5 rfl ?_
                            refine ok_callv F [pI k] dX8_trim_159 kM_X8_value kI_X8_value kV_X8_value kL_X8_191 (ci := 8) rfl sh_0 rfl (by decide) (Nat.le_of_ble_eq_true rfl) rfl (m_X8_value _ k m3 (by omega)) ?_
                            rintro _ _ ⟨rfl, rfl⟩
                            refine ok_imul F dX8_trim_162 ?_
                            refine ok_iadd F dX8_trim_163 ?_
                            refine ok_istore (lv' := [(4, pI (wo + ((m3 18 k.toNat) * (m3 1 (3 + k).toNat)))), (0, pR 0), (1, pI d), (2, pI g), (3, pI z_27), (5, pI k), (6, pI go)]) F dX8_trim_164 (by decide) rfl ?_
                            refine ok_iinc (lv' := [(5, pI (k + (-1))), (4, pI (wo + ((m3 18 k.toNat) * (m3 1 (3 + k).toNat)))), (0, pR 0), (1, pI d), (2, pI g), (3, pI z_27), (6, pI go)]) F dX8_trim_166 5 rfl (by decide) rfl ?_
                            refine ok_goto F 71 dX8_trim_169 (by decide) ?_
                            refine ok_lvp [2, 3, 4, 5, 1, 0] (lv' := [(0, pR 0), (1, pI d), (2, pI g), (3, pI z_27), (4, pI (wo + ((m3 18 k.toNat) * (m3 1 (3 + k).toNat)))), (5, pI (k + (-1)))]) rfl ?_
                            refine ih_71 _ ?_ (wo + ((m3 18 k.toNat) * (m3 1 (3 + k).toNat))) (k + (-1)) m3 ?_ rfl
                            · omega
                            · have em : m3 18 = trimK (mem 1) d (mem 1 2).toNat (shR (mem 1) d (mem 1 2).toNat (fun i => if i < 8 then mem 1 (11 + i) else mem 18 i)) k.toNat (m2 18 k.toNat).toNat (m2 18) := by
                                rcases hc3 with ⟨z1, z2⟩ | ⟨z1, z2⟩
                                · rw [z2, show (m3 18 k.toNat).toNat = 0 by omega]; rfl
                                · exact z2.symm
                              have hTA2 : (trimA (mem 1) d (mem 1 2).toNat (shR (mem 1) d (mem 1 2).toNat (fun i => if i < 8 then mem 1 (11 + i) else mem 18 i)) (mem 1 0).toNat (fun i => if i < 8 then mem 1 (11 + i) else mem 18 i)) = trimA (mem 1) d (mem 1 2).toNat (shR (mem 1) d (mem 1 2).toNat (fun i => if i < 8 then mem 1 (11 + i) else mem 18 i)) k.toNat (m3 18) := by
                                rw [hTA, show (k + 1).toNat = k.toNat + 1 by omega, em]; rfl
                              have hk3 : m3 18 k.toNat = (trimA (mem 1) d (mem 1 2).toNat (shR (mem 1) d (mem 1 2).toNat (fun i => if i < 8 then mem 1 (11 + i) else mem 18 i)) (mem 1 0).toNat (fun i => if i < 8 then mem 1 (11 + i) else mem 18 i)) k.toNat := by rw [hTA2, trimA_ge _ _ _ _ _ _ _ (Nat.le_refl _)]
                              refine ⟨by omega, by omega, ⟨hF3, hF30, hw3⟩, by rw [show (k + -1 + 1).toNat = k.toNat by omega]; exact hTA2, ?_, fun i hi => ?_⟩
                              · rw [show (k + -1 + 1).toNat = k.toNat by omega, ← hwo, show (k + 1).toNat = k.toNat + 1 by omega, sumN, ← hk3, show 3 + k.toNat = (3 + k).toNat by omega, ← h13]; omega
                              · by_cases e : i = k.toNat
                                · subst e; exact hk3
                                · rw [em, trimK_ne _ _ _ _ _ _ _ _ e]; exact htop i (by omega)
                          · refine ok_aload_n F dX8_trim_94 0 rfl ?_
                            refine ok_getr F dX8_trim_95 kF_X8_65 sh_0 rfl ?_
                            refine ok_iload F dX8_trim_98 5 rfl ?_
                            refine ok_dup2 F dX8_trim_100 rfl rfl ?_
                            refine ok_iald (v := m3 18 k.toNat) F dX8_trim_101 sh_18 (by first | decide | assumption) (by first | omega | exact hR _) (by first | omega | exact hR _) rfl ?_
                            refine ok_iconst F dX8_trim_102 ?_
                            refine ok_isub F dX8_trim_103 ?_
                            refine ok_iast F dX8_trim_104 sh_18 (by first | decide | assumption) (by first | omega | exact hR _) (by first | omega | exact hR _) (fun m_34 e_35 => ?_)
                            have ha18 : m_34 18 = rput (m3 18) k.toNat (m3 18 k.toNat - 1) := by funext j; rw [e_35]; unfold rput; by_cases e : j = k.toNat; (rw [if_pos e, e, mset_eq]); (rw [if_neg e, mset_ne (fun q => e q.2)])
                            have haF : ∀ a, a ≠ 18 → m_34 a = m3 a := fun a ha => by rw [e_35]; funext b; exact mset_nk ha
                            have ha1 : m_34 1 = mem 1 := by rw [haF 1 (by decide), h13]
                            refine ok_aload_n F dX8_trim_105 0 rfl ?_
                            refine ok_iload_n F dX8_trim_106 1 rfl ?_
                            refine ok_callv F [pI d] dX8_trim_107 kM_X8_shortsOf kI_X8_shortsOf kV_X8_shortsOf kL_X8_332 (ci := 8) rfl sh_0 rfl (by decide) (Nat.le_of_ble_eq_true rfl) rfl (m_X8_shortsOf _ d m_34 (by omega) (by rw [ha1]; exact hN) (by rw [ha1]; exact hVl) (by rw [ha1]; exact hN2) (by rw [ha1]; exact hR) (by rw [ha1]; exact hAb) (by rw [ha1]; exact hG) (fun j hj => by have := hw3 j hj; rw [ha18]; unfold rput; split <;> omega)) ?_
                            rintro _ m_37 ⟨z_36, rfl, r_38⟩
                            obtain ⟨u1, u2, u3⟩ := id r_38
                            have u18 : m_37 18 = rput (m3 18) k.toNat (m3 18 k.toNat - 1) := by rw [u1 18 (by decide) (by decide) (by decide) (by decide) (by decide) (by decide) (by decide), ha18]
                            have hz2 : z_36 = shR (mem 1) d (mem 1 2).toNat (rput (m3 18) k.toNat (m3 18 k.toNat - 1)) := by rw [u3, ha1]; exact shR_of hN.2 (fun j hj => by unfold cpyN; rw [if_pos (by omega), ha18]; congr 1; omega)
                            have hzb := shR_bd (m1 := mem 1) (d := d) (n2 := (mem 1 2).toNat) (w := rput (m3 18) k.toNat (m3 18 k.toNat - 1)) hN.2 (fun j hj => by have := hw3 j hj; unfold rput; split <;> omega) (fun s hs j hj => (hG s (by omega) j hj).1)
                            refine ok_iload_n F dX8_trim_110 3 rfl ?_
                            refine ok_icmp_gt F 118 dX8_trim_111 (by decide) (by first | omega | exact hR _) (by first | omega | exact hR _) (fun c_39 => ?_) (fun c_39 => ?_)
                            · refine ok_iconst F dX8_trim_118 ?_
                              refine ok_istore (lv' := [(6, pI 0), (0, pR 0), (1, pI d), (2, pI g), (3, pI z_27), (4, pI wo), (5, pI k)]) F dX8_trim_119 (by decide) rfl ?_
                              refine ok_aload_n F dX8_trim_121 1 rfl ?_
                              refine ok_getr F dX8_trim_122 kF_X8_65 sh_0 rfl ?_
                              refine ok_iload F dX8_trim_125 6 rfl ?_
                              refine ok_dup2 F dX8_trim_127 rfl rfl ?_
                              refine ok_iald (v := m_37 18 k.toNat) F dX8_trim_128 sh_18 (by first | decide | assumption) (by first | omega | exact hR _) (by first | omega | exact hR _) rfl ?_
                              refine ok_iload F dX8_trim_129 0 rfl ?_
                              refine ok_if_ne F 138 dX8_trim_131 (by decide) (by first | omega | exact hR _) (fun c_40 => ?_) (fun c_40 => ?_)
                              · exfalso; omega
                              · refine ok_iconst F dX8_trim_134 ?_
                                refine ok_goto F 139 dX8_trim_135 (by decide) ?_
                                refine ok_calls F [pI 1] dX8_trim_139 kM_X8_truth kS_X8_truth kL_X8_137 rfl (by decide) (Nat.le_of_ble_eq_true rfl) rfl (m_X8_truth _ 1 m_37 (by omega)) ?_
                                rintro _ _ ⟨rfl, rfl⟩
                                refine ok_iadd F dX8_trim_142 ?_
                                refine ok_iast F dX8_trim_143 sh_18 (by first | decide | assumption) (by first | omega | exact hR _) (by first | omega | exact hR _) (fun m_41 e_42 => ?_)
                                refine ok_goto F 79 dX8_trim_144 (by decide) ?_
                                refine ok_lvp [1, 2, 3, 4, 5, 6, 0] (lv' := [(0, pR 0), (1, pI d), (2, pI g), (3, pI z_27), (4, pI wo), (5, pI k), (6, pI 0)]) rfl ?_
                                refine ih_79 _ ?_ 0 m_41 ?_ rfl
                                · (have hg1 : go = 1 := by rcases hc3 with z | z <;> omega)
                                  have e1k : m_41 18 k.toNat = m3 18 k.toNat - 1 ∨ m_41 18 k.toNat = m3 18 k.toNat := by rw [e_42, mset_eq, u18]; unfold rput; rw [if_pos rfl]; omega
                                  first | omega | (rcases e1k with z | z <;> omega) | (rw [e_42, mset_eq, u18]; unfold rput; rw [if_pos rfl]; omega)
                                · have hg1 : go = 1 := by rcases hc3 with z | z <;> omega
                                  have hcl := (hc3.resolve_right (fun z => by omega)).2
                                  have hf1 : (m3 18 k.toNat).toNat = (m3 18 k.toNat - 1).toNat + 1 := by omega
                                  rw [hf1, trimK_s] at hcl
                                  refine ⟨⟨fun a a0 a1 a2 a3 a4 a5 a6 a7 => by rw [← hF3 a a0 a1 a2 a3 a4 a5 a6 a7, ← haF a a7, ← u1 a a0 a1 a2 a3 a4 a5 a6, e_42]; funext b; exact mset_nk a7, fun j hj => by rw [e_42, mset_nk (by decide), u2 j hj, haF 0 (by decide), hF30 j hj], fun j hj => ?_⟩, ?_⟩
                                  · have := hw3 j hj
                                    rw [e_42]
                                    by_cases e : j = k.toNat
                                    · subst e; rw [mset_eq, u18]; unfold rput; rw [if_pos rfl]; omega
                                    · rw [mset_ne (fun q => e q.2), u18]; unfold rput; rw [if_neg e]; exact this
                                  · first
                                    | (have em : m_41 18 = rput (m3 18) k.toNat (m3 18 k.toNat - 1) := by { funext j; rw [e_42]; by_cases e : j = k.toNat; { subst e; rw [mset_eq, u18]; unfold rput; rw [if_pos rfl]; omega }; { rw [mset_ne (fun q => e q.2), u18] } }
                                       left; refine ⟨rfl, ?_⟩; rw [hcl, if_pos (by omega), em]; congr 2; unfold rput; rw [if_pos rfl])
                                    | (have em : m_41 18 = m3 18 := by { funext j; rw [e_42]; by_cases e : j = k.toNat; { subst e; rw [mset_eq, u18]; unfold rput; rw [if_pos rfl]; omega }; { rw [mset_ne (fun q => e q.2), u18]; unfold rput; rw [if_neg e] } }
                                       right; refine ⟨rfl, ?_⟩; rw [hcl, if_neg (by omega), em])
                            · refine ok_iconst F dX8_trim_114 ?_
                              refine ok_goto F 119 dX8_trim_115 (by decide) ?_
                              refine ok_istore (lv' := [(6, pI 1), (0, pR 0), (1, pI d), (2, pI g), (3, pI z_27), (4, pI wo), (5, pI k)]) F dX8_trim_119 (by decide) rfl ?_
                              refine ok_aload_n F dX8_trim_121 1 rfl ?_
                              refine ok_getr F dX8_trim_122 kF_X8_65 sh_0 rfl ?_
                              refine ok_iload F dX8_trim_125 6 rfl ?_
                              refine ok_dup2 F dX8_trim_127 rfl rfl ?_
                              refine ok_iald (v := m_37 18 k.toNat) F dX8_trim_128 sh_18 (by first | decide | assumption) (by first | omega | exact hR _) (by first | omega | exact hR _) rfl ?_
                              refine ok_iload F dX8_trim_129 0 rfl ?_
                              refine ok_if_ne F 138 dX8_trim_131 (by decide) (by first | omega | exact hR _) (fun c_43 => ?_) (fun c_43 => ?_)
                              · refine ok_iconst F dX8_trim_138 ?_
                                refine ok_calls F [pI 0] dX8_trim_139 kM_X8_truth kS_X8_truth kL_X8_137 rfl (by decide) (Nat.le_of_ble_eq_true rfl) rfl (m_X8_truth _ 0 m_37 (by omega)) ?_
                                rintro _ _ ⟨rfl, rfl⟩
                                refine ok_iadd F dX8_trim_142 ?_
                                refine ok_iast F dX8_trim_143 sh_18 (by first | decide | assumption) (by first | omega | exact hR _) (by first | omega | exact hR _) (fun m_44 e_45 => ?_)
                                refine ok_goto F 79 dX8_trim_144 (by decide) ?_
                                refine ok_lvp [1, 2, 3, 4, 5, 6, 0] (lv' := [(0, pR 0), (1, pI d), (2, pI g), (3, pI z_27), (4, pI wo), (5, pI k), (6, pI 1)]) rfl ?_
                                refine ih_79 _ ?_ 1 m_44 ?_ rfl
                                · (have hg1 : go = 1 := by rcases hc3 with z | z <;> omega)
                                  have e1k : m_44 18 k.toNat = m3 18 k.toNat - 1 ∨ m_44 18 k.toNat = m3 18 k.toNat := by rw [e_45, mset_eq, u18]; unfold rput; rw [if_pos rfl]; omega
                                  first | omega | (rcases e1k with z | z <;> omega) | (rw [e_45, mset_eq, u18]; unfold rput; rw [if_pos rfl]; omega)
                                · have hg1 : go = 1 := by rcases hc3 with z | z <;> omega
                                  have hcl := (hc3.resolve_right (fun z => by omega)).2
                                  have hf1 : (m3 18 k.toNat).toNat = (m3 18 k.toNat - 1).toNat + 1 := by omega
                                  rw [hf1, trimK_s] at hcl
                                  refine ⟨⟨fun a a0 a1 a2 a3 a4 a5 a6 a7 => by rw [← hF3 a a0 a1 a2 a3 a4 a5 a6 a7, ← haF a a7, ← u1 a a0 a1 a2 a3 a4 a5 a6, e_45]; funext b; exact mset_nk a7, fun j hj => by rw [e_45, mset_nk (by decide), u2 j hj, haF 0 (by decide), hF30 j hj], fun j hj => ?_⟩, ?_⟩
                                  · have := hw3 j hj
                                    rw [e_45]
                                    by_cases e : j = k.toNat
                                    · subst e; rw [mset_eq, u18]; unfold rput; rw [if_pos rfl]; omega
                                    · rw [mset_ne (fun q => e q.2), u18]; unfold rput; rw [if_neg e]; exact this
                                  · first
                                    | (have em : m_44 18 = rput (m3 18) k.toNat (m3 18 k.toNat - 1) := by { funext j; rw [e_45]; by_cases e : j = k.toNat; { subst e; rw [mset_eq, u18]; unfold rput; rw [if_pos rfl]; omega }; { rw [mset_ne (fun q => e q.2), u18] } }
                                       left; refine ⟨rfl, ?_⟩; rw [hcl, if_pos (by omega), em]; congr 2; unfold rput; rw [if_pos rfl])
                                    | (have em : m_44 18 = m3 18 := by { funext j; rw [e_45]; by_cases e : j = k.toNat; { subst e; rw [mset_eq, u18]; unfold rput; rw [if_pos rfl]; omega }; { rw [mset_ne (fun q => e q.2), u18]; unfold rput; rw [if_neg e] } }
                                       right; refine ⟨rfl, ?_⟩; rw [hcl, if_neg (by omega), em])
                              · exfalso; omega
                    refine ok_lvp [1, 2, 3, 4, 5, 6, 0] (lv' := [(0, pR 0), (1, pI d), (2, pI g), (3, pI z_27), (4, pI wo), (5, pI k), (6, pI 1)]) rfl ?_
                    refine hL_79 _ 1 m2 ?_ rfl
                    exact ⟨⟨hF2, hF20, hw2⟩, Or.inl ⟨rfl, rfl⟩⟩
              refine ok_lvp [3, 4, 5, 2, 1, 0] (lv' := [(0, pR 0), (1, pI d), (2, pI g), (3, pI z_27), (4, pI 0), (5, pI ((mem 1 0) - 1))]) rfl ?_
              refine hL_71 _ 0 ((mem 1 0) - 1) m_28 ?_ rfl
              refine ⟨by omega, by omega, ⟨fun a a0 a1 a2 a3 a4 a5 a6 a7 => by rw [s1 a a0 a1 a2 a3 a4 a5 a6, hF a a7], fun j hj => by rw [s2 j hj, hF 0 (by decide)], fun j hj => by rw [s18, hw18]; show 0 ≤ (if j < 8 then mem 1 (11 + j) else mem 18 j) ∧ (if j < 8 then mem 1 (11 + j) else mem 18 j) ≤ 99; rw [if_pos hj]; exact hTl j hj⟩, ?_, ?_, fun j hj => ?_⟩
              · rw [s18, hw18, show (mem 1 0 - 1 + 1).toNat = (mem 1 0).toNat by omega]
              · rw [show (mem 1 0 - 1 + 1).toNat = (mem 1 0).toNat by omega]; omega
              · rw [s18, hw18, trimA_ge _ _ _ _ _ _ _ (by omega)]
            · refine ok_aload_n F dX8_trim_31 0 rfl ?_
              refine ok_getr F dX8_trim_32 kF_X8_65 sh_0 rfl ?_
              refine ok_iload_n F dX8_trim_35 3 rfl ?_
              refine ok_aload_n F dX8_trim_36 0 rfl ?_
              refine ok_getr F dX8_trim_37 kF_X8_9 sh_0 rfl ?_
              refine ok_bipush F dX8_trim_40 rfl ?_
              refine ok_iload_n F dX8_trim_42 3 rfl ?_
              refine ok_iadd F dX8_trim_43 ?_
              refine ok_iald (v := mem 1 ((11 + i).toNat)) F dX8_trim_44 sh_1 (by first | decide | assumption) (by first | omega | exact hR _) (by first | omega | exact hR _) (by rw [hF1] <;> rfl) ?_
              refine ok_iast F dX8_trim_45 sh_18 (by first | decide | assumption) (by first | omega | exact hR _) (by first | omega | exact hR _) (fun m_46 e_47 => ?_)
              refine ok_iinc (lv' := [(3, pI (i + 1)), (0, pR 0), (1, pI d), (2, pI g)]) F dX8_trim_46 3 rfl (by decide) rfl ?_
              refine ok_goto F 25 dX8_trim_49 (by decide) ?_
              refine ok_lvp [1, 2, 3, 0] (lv' := [(0, pR 0), (1, pI d), (2, pI g), (3, pI (i + 1))]) rfl ?_
              refine ih_25 _ ?_ (i + 1) m_46 ?_ rfl
              · omega
              · refine ⟨by omega, by omega, fun a a1 => by rw [← hF a a1, e_47]; funext b; exact mset_nk a1, fun j => ?_⟩
                rw [e_47]
                by_cases e : j = i.toNat
                · subst e; rw [mset_eq, if_pos (by omega), show (11 + i).toNat = 11 + i.toNat by omega]
                · rw [mset_ne (fun q => e q.2), hF18]; by_cases g : (j : Int) < i
                  · rw [if_pos g, if_pos (by omega)]
                  · rw [if_neg g, if_neg (by omega)]
        refine ok_lvp [1, 2, 3, 0] (lv' := [(0, pR 0), (1, pI d), (2, pI g), (3, pI 0)]) rfl ?_
        refine hL_25 _ 0 mem ?_ rfl
        exact ⟨by omega, by omega, fun _ _ => rfl, fun j => (if_neg (by omega)).symm⟩
      · refine ok_iconst F dX8_trim_21 ?_
        refine ok_iret F G dX8_trim_22 ?_
        exact ⟨_, rfl, Keep.rf _, by rw [if_neg (by omega)]⟩
