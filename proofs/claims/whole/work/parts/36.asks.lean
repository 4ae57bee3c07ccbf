/-! the class: a table asked for, and kept till asked otherwise -/
/-- what the table is between calls: none yet; one for change; one for settling -/
def FI (m : Mem) : Prop := (m 186 3 = 0 ∧ m 186 4 = 0 ∧ m 186 5 = -1 ∧ ∀ i : Nat, i < 8 → m 190 i = 0 ∧ m 191 i = 0 ∧ m 192 i = 0) ∨ (∃ T K, FwOk m (tbC (m 190) (m 191) T) 0 T K ∧ ∀ i : Nat, i < 8 → m 192 i = 0 ∧ 0 ≤ m 190 i ∧ m 190 i ≤ 500) ∨ ∃ K, FwOk m (stlT (m 190) (m 191) (m 192)) 2000 2000 K ∧ ∀ i : Nat, i < 8 → 0 ≤ m 190 i ∧ m 190 i ≤ 500
theorem FI.bd {m : Mem} (h : FI m) : (0 ≤ m 186 3 ∧ m 186 3 ≤ 8) ∧ (0 ≤ m 186 4 ∧ m 186 4 ≤ 2000) ∧ (-1 ≤ m 186 5 ∧ m 186 5 ≤ 2500) ∧ ∀ i : Nat, i < 8 → (0 ≤ m 190 i ∧ m 190 i ≤ 500) ∧ (0 ≤ m 191 i ∧ m 191 i ≤ 200) ∧ 0 ≤ m 192 i ∧ m 192 i ≤ 200 := by
  rcases h with ⟨h3, h4, h5, h6⟩ | ⟨T, K, ⟨h3, h4, h5, a4, a5, a6, a7, a8, a9, -⟩, h6⟩ | ⟨K, ⟨h3, h4, h5, a4, a5, a6, a7, a8, a9, -⟩, h6⟩
  · exact ⟨by omega, by omega, by omega, fun i hi => by have := h6 i hi; omega⟩
  · exact ⟨by omega, by omega, by omega, fun i hi => ⟨(h6 i hi).2, a8 i hi, a9 i hi⟩⟩
  · exact ⟨by omega, by omega, by omega, fun i hi => ⟨h6 i hi, a8 i hi, a9 i hi⟩⟩
theorem iand_bit {x : Int} (h : x = 0 ∨ x = 1) : iand x 1 = x ∧ iand x 0 = 0 := by
  rcases h with rfl | rfl <;> decide +kernel
/-- a table for change, laid from a row of the state now -/
def LaidC (mem mv : Mem) (R : Nat) (n high : Int) : Prop := (∀ a, a < 186 ∨ 206 < a ∨ 187 ≤ a ∧ a ≤ 189 → mv a = mem a) ∧ (∃ T, high ≤ T ∧ FwOk mv (tbC (mv 190) (mv 191) T) 0 T n) ∧ ∀ i : Nat, i < 8 → mv 190 i = mem 22 i ∧ mv 191 i = (if (i : Int) < n then mem R i else 0) ∧ mv 192 i = 0
theorem LaidC.fi {mem mv : Mem} {R : Nat} {n high : Int} (h : LaidC mem mv R n high) (hV : ∀ i : Nat, i < 8 → 0 ≤ mem 22 i ∧ mem 22 i ≤ 500) : FI mv := by
  obtain ⟨h1, ⟨T, h2, h3⟩, h4⟩ := h
  exact Or.inr (Or.inl ⟨T, n, h3, fun i hi => by rw [(h4 i hi).1, (h4 i hi).2.2]; exact ⟨rfl, hV i hi⟩⟩)
def LaidS (mem mv : Mem) : Prop := (∀ a, a < 186 ∨ 206 < a ∨ 187 ≤ a ∧ a ≤ 189 → mv a = mem a) ∧ FwOk mv (stlT (mv 190) (mv 191) (mv 192)) 2000 2000 (mem 21 0) ∧ ∀ i : Nat, i < 8 → mv 190 i = mem 22 i ∧ mv 191 i = mem 24 i ∧ mv 192 i = mem 23 i
theorem LaidS.fi {mem mv : Mem} (h : LaidS mem mv) (hV : ∀ i : Nat, i < 8 → 0 ≤ mem 22 i ∧ mem 22 i ≤ 500) : FI mv := by
  obtain ⟨h1, h3, h4⟩ := h
  exact Or.inr (Or.inr ⟨mem 21 0, h3, fun i hi => by rw [(h4 i hi).1]; exact hV i hi⟩)
theorem dX1_layChange_0 : decode cX1_layChange 0 = .ok (.iload_n 3, 1) := by decide +kernel
theorem dX1_layChange_1 : decode cX1_layChange 1 = .ok (.ifCond .lt 22, 3) := by decide +kernel
theorem dX1_layChange_4 : decode cX1_layChange 4 = .ok (.iload_n 3, 1) := by decide +kernel
theorem dX1_layChange_5 : decode cX1_layChange 5 = .ok (.bipush 8, 2) := by decide +kernel
theorem dX1_layChange_7 : decode cX1_layChange 7 = .ok (.if_icmp .gt 16, 3) := by decide +kernel
theorem dX1_layChange_10 : decode cX1_layChange 10 = .ok (.iload 4, 2) := by decide +kernel
theorem dX1_layChange_12 : decode cX1_layChange 12 = .ok (.ifCond .lt 11, 3) := by decide +kernel
theorem dX1_layChange_15 : decode cX1_layChange 15 = .ok (.iload 4, 2) := by decide +kernel
theorem dX1_layChange_17 : decode cX1_layChange 17 = .ok (.sipush 2500, 3) := by decide +kernel
theorem dX1_layChange_20 : decode cX1_layChange 20 = .ok (.if_icmp .le 4, 3) := by decide +kernel
theorem dX1_layChange_24 : decode cX1_layChange 24 = .ok (.aload_n 0, 1) := by decide +kernel
theorem dX1_layChange_25 : decode cX1_layChange 25 = .ok (.getfield 42, 3) := by decide +kernel
theorem dX1_layChange_28 : decode cX1_layChange 28 = .ok (.ifCond .ne 24, 3) := by decide +kernel
theorem dX1_layChange_31 : decode cX1_layChange 31 = .ok (.aload_n 0, 1) := by decide +kernel
theorem dX1_layChange_32 : decode cX1_layChange 32 = .ok (.getfield 21, 3) := by decide +kernel
theorem dX1_layChange_35 : decode cX1_layChange 35 = .ok (.iload 4, 2) := by decide +kernel
theorem dX1_layChange_37 : decode cX1_layChange 37 = .ok (.if_icmp .lt 15, 3) := by decide +kernel
theorem dX1_layChange_40 : decode cX1_layChange 40 = .ok (.aload_n 0, 1) := by decide +kernel
theorem dX1_layChange_41 : decode cX1_layChange 41 = .ok (.getfield 45, 3) := by decide +kernel
theorem dX1_layChange_44 : decode cX1_layChange 44 = .ok (.iload_n 3, 1) := by decide +kernel
theorem dX1_layChange_45 : decode cX1_layChange 45 = .ok (.if_icmp .ne 7, 3) := by decide +kernel
theorem dX1_layChange_48 : decode cX1_layChange 48 = .ok (.iconst 1, 1) := by decide +kernel
theorem dX1_layChange_49 : decode cX1_layChange 49 = .ok (.goto 4, 3) := by decide +kernel
theorem dX1_layChange_52 : decode cX1_layChange 52 = .ok (.iconst 0, 1) := by decide +kernel
theorem dX1_layChange_53 : decode cX1_layChange 53 = .ok (.istore 5, 2) := by decide +kernel
theorem dX1_layChange_55 : decode cX1_layChange 55 = .ok (.iconst 0, 1) := by decide +kernel
theorem dX1_layChange_56 : decode cX1_layChange 56 = .ok (.istore 6, 2) := by decide +kernel
theorem dX1_layChange_58 : decode cX1_layChange 58 = .ok (.iload 6, 2) := by decide +kernel
theorem dX1_layChange_60 : decode cX1_layChange 60 = .ok (.bipush 8, 2) := by decide +kernel
theorem dX1_layChange_62 : decode cX1_layChange 62 = .ok (.if_icmp .ge 95, 3) := by decide +kernel
theorem dX1_layChange_65 : decode cX1_layChange 65 = .ok (.iload 6, 2) := by decide +kernel
theorem dX1_layChange_67 : decode cX1_layChange 67 = .ok (.iload_n 3, 1) := by decide +kernel
theorem dX1_layChange_68 : decode cX1_layChange 68 = .ok (.if_icmp .ge 10, 3) := by decide +kernel
theorem dX1_layChange_71 : decode cX1_layChange 71 = .ok (.aload_n 2, 1) := by decide +kernel
theorem dX1_layChange_72 : decode cX1_layChange 72 = .ok (.iload 6, 2) := by decide +kernel
theorem dX1_layChange_74 : decode cX1_layChange 74 = .ok (.iaload, 1) := by decide +kernel
theorem dX1_layChange_75 : decode cX1_layChange 75 = .ok (.goto 4, 3) := by decide +kernel
theorem dX1_layChange_78 : decode cX1_layChange 78 = .ok (.iconst 0, 1) := by decide +kernel
theorem dX1_layChange_79 : decode cX1_layChange 79 = .ok (.istore 7, 2) := by decide +kernel
theorem dX1_layChange_81 : decode cX1_layChange 81 = .ok (.iload 5, 2) := by decide +kernel
theorem dX1_layChange_83 : decode cX1_layChange 83 = .ok (.aload_n 0, 1) := by decide +kernel
theorem dX1_layChange_84 : decode cX1_layChange 84 = .ok (.getfield 9, 3) := by decide +kernel
theorem dX1_layChange_87 : decode cX1_layChange 87 = .ok (.iload 6, 2) := by decide +kernel
theorem dX1_layChange_89 : decode cX1_layChange 89 = .ok (.iaload, 1) := by decide +kernel
theorem dX1_layChange_90 : decode cX1_layChange 90 = .ok (.aload_n 1, 1) := by decide +kernel
theorem dX1_layChange_91 : decode cX1_layChange 91 = .ok (.getfield 48, 3) := by decide +kernel
theorem dX1_layChange_94 : decode cX1_layChange 94 = .ok (.iload 6, 2) := by decide +kernel
theorem dX1_layChange_96 : decode cX1_layChange 96 = .ok (.iaload, 1) := by decide +kernel
theorem dX1_layChange_97 : decode cX1_layChange 97 = .ok (.if_icmp .ne 19, 3) := by decide +kernel
theorem dX1_layChange_100 : decode cX1_layChange 100 = .ok (.aload_n 0, 1) := by decide +kernel
theorem dX1_layChange_101 : decode cX1_layChange 101 = .ok (.getfield 15, 3) := by decide +kernel
theorem dX1_layChange_104 : decode cX1_layChange 104 = .ok (.iload 6, 2) := by decide +kernel
theorem dX1_layChange_106 : decode cX1_layChange 106 = .ok (.iaload, 1) := by decide +kernel
theorem dX1_layChange_107 : decode cX1_layChange 107 = .ok (.iload 7, 2) := by decide +kernel
theorem dX1_layChange_109 : decode cX1_layChange 109 = .ok (.if_icmp .ne 7, 3) := by decide +kernel
theorem dX1_layChange_112 : decode cX1_layChange 112 = .ok (.iconst 1, 1) := by decide +kernel
theorem dX1_layChange_113 : decode cX1_layChange 113 = .ok (.goto 4, 3) := by decide +kernel
theorem dX1_layChange_116 : decode cX1_layChange 116 = .ok (.iconst 0, 1) := by decide +kernel
theorem dX1_layChange_117 : decode cX1_layChange 117 = .ok (.iand, 1) := by decide +kernel
theorem dX1_layChange_118 : decode cX1_layChange 118 = .ok (.istore 5, 2) := by decide +kernel
theorem dX1_layChange_120 : decode cX1_layChange 120 = .ok (.aload_n 0, 1) := by decide +kernel
theorem dX1_layChange_121 : decode cX1_layChange 121 = .ok (.getfield 9, 3) := by decide +kernel
theorem dX1_layChange_124 : decode cX1_layChange 124 = .ok (.iload 6, 2) := by decide +kernel
theorem dX1_layChange_126 : decode cX1_layChange 126 = .ok (.aload_n 1, 1) := by decide +kernel
theorem dX1_layChange_127 : decode cX1_layChange 127 = .ok (.getfield 48, 3) := by decide +kernel
theorem dX1_layChange_130 : decode cX1_layChange 130 = .ok (.iload 6, 2) := by decide +kernel
theorem dX1_layChange_132 : decode cX1_layChange 132 = .ok (.iaload, 1) := by decide +kernel
theorem dX1_layChange_133 : decode cX1_layChange 133 = .ok (.iastore, 1) := by decide +kernel
theorem dX1_layChange_134 : decode cX1_layChange 134 = .ok (.aload_n 0, 1) := by decide +kernel
theorem dX1_layChange_135 : decode cX1_layChange 135 = .ok (.getfield 15, 3) := by decide +kernel
theorem dX1_layChange_138 : decode cX1_layChange 138 = .ok (.iload 6, 2) := by decide +kernel
theorem dX1_layChange_140 : decode cX1_layChange 140 = .ok (.iload 7, 2) := by decide +kernel
theorem dX1_layChange_142 : decode cX1_layChange 142 = .ok (.iastore, 1) := by decide +kernel
theorem dX1_layChange_143 : decode cX1_layChange 143 = .ok (.aload_n 0, 1) := by decide +kernel
theorem dX1_layChange_144 : decode cX1_layChange 144 = .ok (.getfield 18, 3) := by decide +kernel
theorem dX1_layChange_147 : decode cX1_layChange 147 = .ok (.iload 6, 2) := by decide +kernel
theorem dX1_layChange_149 : decode cX1_layChange 149 = .ok (.iconst 0, 1) := by decide +kernel
theorem dX1_layChange_150 : decode cX1_layChange 150 = .ok (.iastore, 1) := by decide +kernel
theorem dX1_layChange_151 : decode cX1_layChange 151 = .ok (.iinc 6 1, 3) := by decide +kernel
theorem dX1_layChange_154 : decode cX1_layChange 154 = .ok (.goto (-96), 3) := by decide +kernel
theorem dX1_layChange_157 : decode cX1_layChange 157 = .ok (.iload 5, 2) := by decide +kernel
theorem dX1_layChange_159 : decode cX1_layChange 159 = .ok (.ifCond .ne 23, 3) := by decide +kernel
theorem dX1_layChange_162 : decode cX1_layChange 162 = .ok (.aload_n 0, 1) := by decide +kernel
theorem dX1_layChange_163 : decode cX1_layChange 163 = .ok (.iconst 0, 1) := by decide +kernel
theorem dX1_layChange_164 : decode cX1_layChange 164 = .ok (.putfield 42, 3) := by decide +kernel
theorem dX1_layChange_167 : decode cX1_layChange 167 = .ok (.aload_n 0, 1) := by decide +kernel
theorem dX1_layChange_168 : decode cX1_layChange 168 = .ok (.iload 4, 2) := by decide +kernel
theorem dX1_layChange_170 : decode cX1_layChange 170 = .ok (.putfield 21, 3) := by decide +kernel
theorem dX1_layChange_173 : decode cX1_layChange 173 = .ok (.aload_n 0, 1) := by decide +kernel
theorem dX1_layChange_174 : decode cX1_layChange 174 = .ok (.iload_n 3, 1) := by decide +kernel
theorem dX1_layChange_175 : decode cX1_layChange 175 = .ok (.putfield 45, 3) := by decide +kernel
theorem dX1_layChange_178 : decode cX1_layChange 178 = .ok (.aload_n 0, 1) := by decide +kernel
theorem dX1_layChange_179 : decode cX1_layChange 179 = .ok (.invokevirtual 51, 3) := by decide +kernel
theorem dX1_layChange_182 : decode cX1_layChange 182 = .ok (.return_, 1) := by decide +kernel
set_option maxHeartbeats 4000000 in
set_option maxRecDepth 100000 in
theorem m_X1_layChange (l : Launch) (R : Nat) (n : Int) (high : Int) (mem : Mem) (hFI : FI mem) (hn : 0 ≤ n ∧ n ≤ 8) (hh : 0 ≤ high ∧ high ≤ 2500) (hV : ∀ i : Nat, i < 8 → 0 ≤ mem 22 i ∧ mem 22 i ≤ 500) (hV1 : ∀ i : Nat, (i : Int) < n → 1 ≤ mem 22 i) (hR : shp[R]? = some (.inr (.inl (0, 8)))) (hRn : R < 186 ∨ 206 < R) (hC : ∀ i : Nat, (i : Int) < n → 0 ≤ mem R i ∧ mem R i ≤ 200) : Ret shp l yX1_layChange cX1_layChange 8 none 2 [pR 186, pR 21, pR R, pI n, pI high] mem (fun rv mv => rv = none ∧ LaidC mem mv R n high) := by
  refine ret_of (by decide +kernel) (Nat.le_of_ble_eq_true rfl) (fun X hX F G => ?_)
  show Ok shp X 8 0 [(0, pR 186), (1, pR 21), (2, pR R), (3, pI n), (4, pI high)] [] mem
  obtain ⟨f1, f2, f3, f4⟩ := hFI.bd
  refine ok_iload_n F dX1_layChange_0 3 rfl ?_
  refine ok_if_lt F 23 dX1_layChange_1 (by decide) (by omega) (fun c_1 => ?_) (fun c_1 => ?_)
  · exfalso; omega
  · refine ok_iload_n F dX1_layChange_4 3 rfl ?_
    refine ok_bipush F dX1_layChange_5 rfl ?_
    refine ok_icmp_gt F 23 dX1_layChange_7 (by decide) (by omega) (by omega) (fun c_2 => ?_) (fun c_2 => ?_)
    · exfalso; omega
    · refine ok_iload F dX1_layChange_10 4 rfl ?_
      refine ok_if_lt F 23 dX1_layChange_12 (by decide) (by omega) (fun c_3 => ?_) (fun c_3 => ?_)
      · exfalso; omega
      · refine ok_iload F dX1_layChange_15 4 rfl ?_
        refine ok_sipush F dX1_layChange_17 rfl ?_
        refine ok_icmp_le F 24 dX1_layChange_20 (by decide) (by omega) (by omega) (fun c_4 => ?_) (fun c_4 => ?_)
        · refine ok_aload_n F dX1_layChange_24 0 rfl ?_
          refine ok_getf (v := mem 186 4) F dX1_layChange_25 kF_X1_42 sh_186 rfl rfl ?_
          have hJ_55 : ∀ (s0 : Int), ((s0 = 0 ∨ s0 = 1) ∧ (s0 = 1 → mem 186 4 = 0 ∧ high ≤ mem 186 5 ∧ mem 186 3 = n)) → Ok shp X 8 55 [(0, pR 186), (1, pR 21), (2, pR R), (3, pI n), (4, pI high), (5, pI s0)] [] mem := by
            intro s0 hI_55
            obtain ⟨hs01, hs02⟩ := hI_55
            refine ok_iconst F dX1_layChange_55 ?_
            refine ok_istore (lv' := [(6, pI 0), (0, pR 186), (1, pR 21), (2, pR R), (3, pI n), (4, pI high), (5, pI s0)]) F dX1_layChange_56 (by decide) rfl ?_
            have hL_58 : ∀ (n_58 : Nat) (sm : Int) (k : Int) (m : Mem), (0 ≤ k ∧ k ≤ 8 ∧ (sm = 0 ∨ sm = 1) ∧ (∀ a, a ≠ 190 → a ≠ 191 → a ≠ 192 → m a = mem a) ∧ (∀ i : Nat, m 190 i = if (i : Int) < k then mem 22 i else mem 190 i) ∧ (∀ i : Nat, m 191 i = if (i : Int) < k then (if (i : Int) < n then mem R i else 0) else mem 191 i) ∧ (∀ i : Nat, m 192 i = if (i : Int) < k then 0 else mem 192 i) ∧ (sm = 1 → (mem 186 4 = 0 ∧ high ≤ mem 186 5 ∧ mem 186 3 = n) ∧ ∀ i : Nat, (i : Int) < k → mem 190 i = mem 22 i ∧ mem 191 i = (if (i : Int) < n then mem R i else 0))) → (8 - k).toNat = n_58 → Ok shp X 8 58 [(0, pR 186), (1, pR 21), (2, pR R), (3, pI n), (4, pI high), (5, pI sm), (6, pI k)] [] m := by
              intro n_58
              induction n_58 using Nat.strongRecOn with
              | _ n_58 ih_58 =>
                intro sm k m hI_58 hn_58
                obtain ⟨hk0, hk1, hsm, hF, h190, h191, h192, hsame⟩ := hI_58
                have h186 := hF 186 (by decide) (by decide) (by decide)
                have h21 := hF 21 (by decide) (by decide) (by decide)
                have h22 := hF 22 (by decide) (by decide) (by decide)
                refine ok_iload F dX1_layChange_58 6 rfl ?_
                refine ok_bipush F dX1_layChange_60 rfl ?_
                refine ok_icmp_ge F 157 dX1_layChange_62 (by decide) (by omega) (by omega) (fun c_5 => ?_) (fun c_5 => ?_)
                · refine ok_iload F dX1_layChange_157 5 rfl ?_
                  refine ok_if_ne F 182 dX1_layChange_159 (by decide) (by omega) (fun c_6 => ?_) (fun c_6 => ?_)
                  · refine ok_vret F G dX1_layChange_182 ?_
                    refine ⟨rfl, ?_⟩
                    first
                      | (have v0 := r1 190 (by decide); have v1 := r1 191 (by decide); have v2 := r1 192 (by decide); have v6 := r1 186 (by decide)
                         refine ⟨fun a ha => by rw [r1 a (by omega), eo a (by omega)]; exact hF a (by omega) (by omega) (by omega), ⟨high, Int.le_refl _, by rw [v6]; exact e3, by rw [v6]; exact e4, by rw [v6]; exact e5, hn, by decide, by omega, ?_, ?_, ?_, ?_, ?_⟩, fun i hi => by rw [v0, v1, v2]; exact ⟨n190 i hi, n191 i hi, n192 i hi⟩⟩
                         · rw [v0]; exact fun i hi => by rw [n190 i (by omega)]; exact ⟨hV1 i hi, (hV i (by omega)).2⟩
                         · rw [v1]; exact b191
                         · rw [v2]; exact fun i hi => by rw [n192 i hi]; decide
                         · rw [v0, v1, v2]; exact tbC_ok hh.1 (fun i hi => ⟨(b191 i (by omega)).1, by rw [n190 i (by omega)]; exact (hV i (by omega)).1⟩) (fun i hi => n192 i (by omega))
                         · rw [v0, v1, v2]; exact r2)
                      | (have q1 : sm = 1 := by omega
                         obtain ⟨⟨a1, a2, a3⟩, a4⟩ := hsame q1
                         rcases hFI with ⟨b1, b2, b3, b4⟩ | ⟨T, K, hw, hz⟩ | ⟨K, hw, hz⟩
                         · exfalso; omega
                         · have w3 := hw.1; have w5 := hw.2.2.1
                           have m0 : m 190 = mem 190 := by funext i; rw [h190]; by_cases g : (i : Int) < k; (rw [if_pos g]; exact (a4 i g).1.symm); exact if_neg g
                           have m1 : m 191 = mem 191 := by funext i; rw [h191]; by_cases g : (i : Int) < k; (rw [if_pos g]; exact (a4 i g).2.symm); exact if_neg g
                           have m2 : m 192 = mem 192 := by funext i; rw [h192]; by_cases g : (i : Int) < k; (rw [if_pos g]; exact (hz i (by omega)).1.symm); exact if_neg g
                           have hall : ∀ a, m a = mem a := fun a => by by_cases g0 : a = 190; (rw [g0]; exact m0); by_cases g1 : a = 191; (rw [g1]; exact m1); by_cases g2 : a = 192; (rw [g2]; exact m2); exact hF a g0 g1 g2
                           refine ⟨fun a _ => hall a, ⟨T, by omega, ?_⟩, fun i hi => by rw [m0, m1, m2]; exact ⟨(a4 i (by omega)).1, (a4 i (by omega)).2, (hz i hi).1⟩⟩
                           rw [m0, m1, ← a3, w3]
                           exact hw.congr (fun a _ _ _ _ _ => hall a)
                         · exfalso; have := hw.2.1; omega)
                  · refine ok_aload_n F dX1_layChange_162 0 rfl ?_
                    refine ok_iconst F dX1_layChange_163 ?_
                    refine ok_putf F dX1_layChange_164 kF_X1_42 sh_186 rfl rfl rfl (fun m_7 e_8 => ?_)
                    refine ok_aload_n F dX1_layChange_167 0 rfl ?_
                    refine ok_iload F dX1_layChange_168 4 rfl ?_
                    refine ok_putf F dX1_layChange_170 kF_X1_21 sh_186 rfl rfl rfl (fun m_9 e_10 => ?_)
                    refine ok_aload_n F dX1_layChange_173 0 rfl ?_
                    refine ok_iload_n F dX1_layChange_174 3 rfl ?_
                    refine ok_putf F dX1_layChange_175 kF_X1_45 sh_186 rfl rfl rfl (fun m_11 e_12 => ?_)
                    have e3 : m_11 186 3 = n := by rw [e_12, e_10, e_8, mset_eq]
                    have e4 : m_11 186 4 = 0 := by rw [e_12, e_10, e_8, mset_ne (by decide), mset_ne (by decide), mset_eq]
                    have e5 : m_11 186 5 = high := by rw [e_12, e_10, e_8, mset_ne (by decide), mset_eq]
                    have eo : ∀ a, a ≠ 186 → m_11 a = m a := fun a ha => by rw [e_12, e_10, e_8, mset_nka ha, mset_nka ha, mset_nka ha]
                    have n190 : ∀ i : Nat, i < 8 → m_11 190 i = mem 22 i := fun i hi => by rw [eo 190 (by decide), h190, if_pos (by omega)]
                    have n191 : ∀ i : Nat, i < 8 → m_11 191 i = (if (i : Int) < n then mem R i else 0) := fun i hi => by rw [eo 191 (by decide), h191, if_pos (by omega : (i : Int) < k)]
                    have n192 : ∀ i : Nat, i < 8 → m_11 192 i = 0 := fun i hi => by rw [eo 192 (by decide), h192, if_pos (by omega)]
                    have b191 : ∀ i : Nat, i < 8 → 0 ≤ m_11 191 i ∧ m_11 191 i ≤ 200 := fun i hi => by rw [n191 i hi]; split; (exact hC i (by assumption)); omega
                    obtain ⟨mP, hmP⟩ : ∃ x, x = m_11 := ⟨_, rfl⟩
                    rw [← hmP] at e3 e4 e5 eo n190 n191 n192 b191
                    refine ok_aload_n F dX1_layChange_178 0 rfl ?_
                    refine ok_callv F [] dX1_layChange_179 kM_X1_layLevels kI_X1_layLevels kV_X1_layLevels kL_X1_51 (ci := 1) rfl sh_186 rfl (by decide) (Nat.le_of_ble_eq_true rfl) rfl (m_X1_layLevels _ (tbC (m_11 190) (m_11 191) high) m_11 (by rw [← hmP, e3]; exact hn) (by rw [← hmP, e4]; decide) (by rw [← hmP, e4, e5]; omega) (by rw [← hmP, e3]; exact fun i hi => by rw [n190 i (by omega)]; exact ⟨hV1 i hi, (hV i (by omega)).2⟩) (by rw [← hmP, e3]; exact fun i hi => b191 i (by omega)) (by rw [← hmP, e3]; exact fun i hi => by rw [n192 i (by omega)]; decide) (by rw [← hmP, e3, e4, e5]; exact tbC_ok hh.1 (fun i hi => ⟨(b191 i (by omega)).1, by rw [n190 i (by omega)]; exact (hV i (by omega)).1⟩) (fun i hi => n192 i (by omega)))) ?_
                    rintro _ m_14 ⟨rfl, r_15⟩
                    obtain ⟨r1, r2⟩ := id r_15
                    rw [← hmP] at r1 r2
                    rw [e3, e4, e5] at r2
                    refine ok_vret F G dX1_layChange_182 ?_
                    refine ⟨rfl, ?_⟩
                    first
                      | (have v0 := r1 190 (by decide); have v1 := r1 191 (by decide); have v2 := r1 192 (by decide); have v6 := r1 186 (by decide)
                         refine ⟨fun a ha => by rw [r1 a (by omega), eo a (by omega)]; exact hF a (by omega) (by omega) (by omega), ⟨high, Int.le_refl _, by rw [v6]; exact e3, by rw [v6]; exact e4, by rw [v6]; exact e5, hn, by decide, by omega, ?_, ?_, ?_, ?_, ?_⟩, fun i hi => by rw [v0, v1, v2]; exact ⟨n190 i hi, n191 i hi, n192 i hi⟩⟩
                         · rw [v0]; exact fun i hi => by rw [n190 i (by omega)]; exact ⟨hV1 i hi, (hV i (by omega)).2⟩
                         · rw [v1]; exact b191
                         · rw [v2]; exact fun i hi => by rw [n192 i hi]; decide
                         · rw [v0, v1, v2]; exact tbC_ok hh.1 (fun i hi => ⟨(b191 i (by omega)).1, by rw [n190 i (by omega)]; exact (hV i (by omega)).1⟩) (fun i hi => n192 i (by omega))
                         · rw [v0, v1, v2]; exact r2)
                      | (have q1 : sm = 1 := by omega
                         obtain ⟨⟨a1, a2, a3⟩, a4⟩ := hsame q1
                         rcases hFI with ⟨b1, b2, b3, b4⟩ | ⟨T, K, hw, hz⟩ | ⟨K, hw, hz⟩
                         · exfalso; omega
                         · have w3 := hw.1; have w5 := hw.2.2.1
                           have m0 : m 190 = mem 190 := by funext i; rw [h190]; by_cases g : (i : Int) < k; (rw [if_pos g]; exact (a4 i g).1.symm); exact if_neg g
                           have m1 : m 191 = mem 191 := by funext i; rw [h191]; by_cases g : (i : Int) < k; (rw [if_pos g]; exact (a4 i g).2.symm); exact if_neg g
                           have m2 : m 192 = mem 192 := by funext i; rw [h192]; by_cases g : (i : Int) < k; (rw [if_pos g]; exact (hz i (by omega)).1.symm); exact if_neg g
                           have hall : ∀ a, m a = mem a := fun a => by by_cases g0 : a = 190; (rw [g0]; exact m0); by_cases g1 : a = 191; (rw [g1]; exact m1); by_cases g2 : a = 192; (rw [g2]; exact m2); exact hF a g0 g1 g2
                           refine ⟨fun a _ => hall a, ⟨T, by omega, ?_⟩, fun i hi => by rw [m0, m1, m2]; exact ⟨(a4 i (by omega)).1, (a4 i (by omega)).2, (hz i hi).1⟩⟩
                           rw [m0, m1, ← a3, w3]
                           exact hw.congr (fun a _ _ _ _ _ => hall a)
                         · exfalso; have := hw.2.1; omega)
                · have hJ_81 : ∀ (mo : Int), (mo = (if k < n then mem R k.toNat else 0)) → Ok shp X 8 81 [(0, pR 186), (1, pR 21), (2, pR R), (3, pI n), (4, pI high), (5, pI sm), (6, pI k), (7, pI mo)] [] m := by
                    intro mo hI_81
                    have hmo := hI_81
                    have hmb : 0 ≤ mo ∧ mo ≤ 200 := by rw [hmo]; split; (have q := hC k.toNat (by omega); omega); omega
                    refine ok_iload F dX1_layChange_81 5 rfl ?_
                    have g190 : m 190 k.toNat = mem 190 k.toNat := by rw [h190, if_neg (by omega)]
                    have g191 : m 191 k.toNat = mem 191 k.toNat := by rw [h191, if_neg (by omega)]
                    have q4 := f4 k.toNat (by omega)
                    have qV := hV k.toNat (by omega)
                    refine ok_aload_n F dX1_layChange_83 0 rfl ?_
                    refine ok_getr F dX1_layChange_84 kF_X1_9 sh_186 rfl ?_
                    refine ok_iload F dX1_layChange_87 6 rfl ?_
                    refine ok_iald (v := m 190 k.toNat) F dX1_layChange_89 sh_190 (by first | decide | assumption) (by omega) (by omega) rfl ?_
                    refine ok_aload_n F dX1_layChange_90 1 rfl ?_
                    refine ok_getr F dX1_layChange_91 kF_X1_48 sh_21 rfl ?_
                    refine ok_iload F dX1_layChange_94 6 rfl ?_
                    refine ok_iald (v := mem 22 k.toNat) F dX1_layChange_96 sh_22 (by first | decide | assumption) (by omega) (by omega) (by rw [h22] <;> rfl) ?_
                    refine ok_icmp_ne F 116 dX1_layChange_97 (by decide) (by omega) (by omega) (fun c_16 => ?_) (fun c_16 => ?_)
                    · refine ok_iconst F dX1_layChange_116 ?_
                      refine ok_iand F dX1_layChange_117 ?_
                      refine ok_istore (lv' := [(5, pI (iand sm 0)), (0, pR 186), (1, pR 21), (2, pR R), (3, pI n), (4, pI high), (6, pI k), (7, pI mo)]) F dX1_layChange_118 (by decide) rfl ?_
                      refine ok_aload_n F dX1_layChange_120 1 rfl ?_
                      refine ok_getr F dX1_layChange_121 kF_X1_9 sh_186 rfl ?_
                      refine ok_iload F dX1_layChange_124 6 rfl ?_
                      refine ok_aload_n F dX1_layChange_126 2 rfl ?_
                      refine ok_getr F dX1_layChange_127 kF_X1_48 sh_21 rfl ?_
                      refine ok_iload F dX1_layChange_130 6 rfl ?_
                      refine ok_iald (v := mem 22 k.toNat) F dX1_layChange_132 sh_22 (by first | decide | assumption) (by omega) (by omega) (by rw [h22] <;> rfl) ?_
                      refine ok_iast F dX1_layChange_133 sh_190 (by first | decide | assumption) (by omega) (by omega) (fun m_17 e_18 => ?_)
                      refine ok_aload_n F dX1_layChange_134 1 rfl ?_
                      refine ok_getr F dX1_layChange_135 kF_X1_15 sh_186 rfl ?_
                      refine ok_iload F dX1_layChange_138 6 rfl ?_
                      refine ok_iload F dX1_layChange_140 7 rfl ?_
                      refine ok_iast F dX1_layChange_142 sh_191 (by first | decide | assumption) (by omega) (by omega) (fun m_19 e_20 => ?_)
                      refine ok_aload_n F dX1_layChange_143 1 rfl ?_
                      refine ok_getr F dX1_layChange_144 kF_X1_18 sh_186 rfl ?_
                      refine ok_iload F dX1_layChange_147 6 rfl ?_
                      refine ok_iconst F dX1_layChange_149 ?_
                      refine ok_iast F dX1_layChange_150 sh_192 (by first | decide | assumption) (by omega) (by omega) (fun m_21 e_22 => ?_)
                      refine ok_iinc (lv' := [(6, pI (k + 1)), (5, pI (iand sm 0)), (0, pR 186), (1, pR 21), (2, pR R), (3, pI n), (4, pI high), (7, pI mo)]) F dX1_layChange_151 6 rfl (by decide) rfl ?_
                      refine ok_goto F 58 dX1_layChange_154 (by decide) ?_
                      refine ok_lvp [2, 3, 4, 5, 6, 1, 0] (lv' := [(0, pR 186), (1, pR 21), (2, pR R), (3, pI n), (4, pI high), (5, pI (iand sm 0)), (6, pI (k + 1))]) rfl ?_
                      refine ih_58 _ ?_ (iand sm 0) (k + 1) m_21 ?_ rfl
                      · omega
                      · have e22 : ∀ j, m_21 22 j = mem 22 j := fun j => by rw [e_22, e_20, e_18, mset_nk (by decide), mset_nk (by decide), mset_nk (by decide), h22]
                        refine ⟨by omega, by omega, ?_, fun a a1 a2 a3 => by rw [e_22, e_20, e_18, mset_nka a3, mset_nka a2, mset_nka a1]; exact hF a a1 a2 a3, fun i => ?_, fun i => ?_, fun i => ?_, fun q => ?_⟩
                        · first | (rw [(iand_bit hsm).1]; exact hsm) | (rw [(iand_bit hsm).2]; exact Or.inl rfl)
                        · rw [e_22, e_20, e_18, mset_nk (by decide), mset_nk (by decide)]; by_cases e : i = k.toNat; (subst e; rw [mset_eq, if_pos (by omega)]); (rw [mset_ne (fun q => e q.2), h190]; by_cases g : (i : Int) < k; (rw [if_pos g, if_pos (by omega)]); (rw [if_neg g, if_neg (by omega)]))
                        · rw [e_22, e_20, e_18, mset_nk (by decide)]; by_cases e : i = k.toNat; (subst e; rw [mset_eq, if_pos (by omega : ((k.toNat : Nat) : Int) < k + 1), hmo, show ((k.toNat : Nat) : Int) = k by omega]); (rw [mset_ne (fun q => e q.2), mset_nk (by decide), h191]; by_cases g : (i : Int) < k; (rw [if_pos g, if_pos (by omega : (i : Int) < k + 1)]); (rw [if_neg g, if_neg (by omega : ¬ (i : Int) < k + 1)]))
                        · rw [e_22, e_20, e_18]; by_cases e : i = k.toNat; (subst e; rw [mset_eq, if_pos (by omega)]); (rw [mset_ne (fun q => e q.2), mset_nk (by decide), mset_nk (by decide), h192]; by_cases g : (i : Int) < k; (rw [if_pos g, if_pos (by omega)]); (rw [if_neg g, if_neg (by omega)]))
                        · first
                          | (rw [(iand_bit hsm).2] at q; omega)
                          | (rw [(iand_bit hsm).1] at q; refine ⟨(hsame q).1, fun i hi => ?_⟩; by_cases e : i = k.toNat; (subst e; rw [show ((k.toNat : Nat) : Int) = k by omega, ← hmo]; exact ⟨by omega, by omega⟩); exact (hsame q).2 i (by omega))
                    · refine ok_aload_n F dX1_layChange_100 0 rfl ?_
                      refine ok_getr F dX1_layChange_101 kF_X1_15 sh_186 rfl ?_
                      refine ok_iload F dX1_layChange_104 6 rfl ?_
                      refine ok_iald (v := m 191 k.toNat) F dX1_layChange_106 sh_191 (by first | decide | assumption) (by omega) (by omega) rfl ?_
                      refine ok_iload F dX1_layChange_107 7 rfl ?_
                      refine ok_icmp_ne F 116 dX1_layChange_109 (by decide) (by omega) (by omega) (fun c_23 => ?_) (fun c_23 => ?_)
                      · refine ok_iconst F dX1_layChange_116 ?_
                        refine ok_iand F dX1_layChange_117 ?_
                        refine ok_istore (lv' := [(5, pI (iand sm 0)), (0, pR 186), (1, pR 21), (2, pR R), (3, pI n), (4, pI high), (6, pI k), (7, pI mo)]) F dX1_layChange_118 (by decide) rfl ?_
                        refine ok_aload_n F dX1_layChange_120 1 rfl ?_
                        refine ok_getr F dX1_layChange_121 kF_X1_9 sh_186 rfl ?_
                        refine ok_iload F dX1_layChange_124 6 rfl ?_
                        refine ok_aload_n F dX1_layChange_126 2 rfl ?_
                        refine ok_getr F dX1_layChange_127 kF_X1_48 sh_21 rfl ?_
                        refine ok_iload F dX1_layChange_130 6 rfl ?_
                        refine ok_iald (v := mem 22 k.toNat) F dX1_layChange_132 sh_22 (by first | decide | assumption) (by omega) (by omega) (by rw [h22] <;> rfl) ?_
                        refine ok_iast F dX1_layChange_133 sh_190 (by first | decide | assumption) (by omega) (by omega) (fun m_24 e_25 => ?_)
                        refine ok_aload_n F dX1_layChange_134 1 rfl ?_
                        refine ok_getr F dX1_layChange_135 kF_X1_15 sh_186 rfl ?_
                        refine ok_iload F dX1_layChange_138 6 rfl ?_
                        refine ok_iload F dX1_layChange_140 7 rfl ?_
                        refine ok_iast F dX1_layChange_142 sh_191 (by first | decide | assumption) (by omega) (by omega) (fun m_26 e_27 => ?_)
                        refine ok_aload_n F dX1_layChange_143 1 rfl ?_
                        refine ok_getr F dX1_layChange_144 kF_X1_18 sh_186 rfl ?_
                        refine ok_iload F dX1_layChange_147 6 rfl ?_
                        refine ok_iconst F dX1_layChange_149 ?_
                        refine ok_iast F dX1_layChange_150 sh_192 (by first | decide | assumption) (by omega) (by omega) (fun m_28 e_29 => ?_)
                        refine ok_iinc (lv' := [(6, pI (k + 1)), (5, pI (iand sm 0)), (0, pR 186), (1, pR 21), (2, pR R), (3, pI n), (4, pI high), (7, pI mo)]) F dX1_layChange_151 6 rfl (by decide) rfl ?_
                        refine ok_goto F 58 dX1_layChange_154 (by decide) ?_
                        refine ok_lvp [2, 3, 4, 5, 6, 1, 0] (lv' := [(0, pR 186), (1, pR 21), (2, pR R), (3, pI n), (4, pI high), (5, pI (iand sm 0)), (6, pI (k + 1))]) rfl ?_
                        refine ih_58 _ ?_ (iand sm 0) (k + 1) m_28 ?_ rfl
                        · omega
                        · have e22 : ∀ j, m_28 22 j = mem 22 j := fun j => by rw [e_29, e_27, e_25, mset_nk (by decide), mset_nk (by decide), mset_nk (by decide), h22]
                          refine ⟨by omega, by omega, ?_, fun a a1 a2 a3 => by rw [e_29, e_27, e_25, mset_nka a3, mset_nka a2, mset_nka a1]; exact hF a a1 a2 a3, fun i => ?_, fun i => ?_, fun i => ?_, fun q => ?_⟩
                          · first | (rw [(iand_bit hsm).1]; exact hsm) | (rw [(iand_bit hsm).2]; exact Or.inl rfl)
                          · rw [e_29, e_27, e_25, mset_nk (by decide), mset_nk (by decide)]; by_cases e : i = k.toNat; (subst e; rw [mset_eq, if_pos (by omega)]); (rw [mset_ne (fun q => e q.2), h190]; by_cases g : (i : Int) < k; (rw [if_pos g, if_pos (by omega)]); (rw [if_neg g, if_neg (by omega)]))
                          · rw [e_29, e_27, e_25, mset_nk (by decide)]; by_cases e : i = k.toNat; (subst e; rw [mset_eq, if_pos (by omega : ((k.toNat : Nat) : Int) < k + 1), hmo, show ((k.toNat : Nat) : Int) = k by omega]); (rw [mset_ne (fun q => e q.2), mset_nk (by decide), h191]; by_cases g : (i : Int) < k; (rw [if_pos g, if_pos (by omega : (i : Int) < k + 1)]); (rw [if_neg g, if_neg (by omega : ¬ (i : Int) < k + 1)]))
                          · rw [e_29, e_27, e_25]; by_cases e : i = k.toNat; (subst e; rw [mset_eq, if_pos (by omega)]); (rw [mset_ne (fun q => e q.2), mset_nk (by decide), mset_nk (by decide), h192]; by_cases g : (i : Int) < k; (rw [if_pos g, if_pos (by omega)]); (rw [if_neg g, if_neg (by omega)]))
                          · first
                            | (rw [(iand_bit hsm).2] at q; omega)
                            | (rw [(iand_bit hsm).1] at q; refine ⟨(hsame q).1, fun i hi => ?_⟩; by_cases e : i = k.toNat; (subst e; rw [show ((k.toNat : Nat) : Int) = k by omega, ← hmo]; exact ⟨by omega, by omega⟩); exact (hsame q).2 i (by omega))
                      · refine ok_iconst F dX1_layChange_112 ?_
                        refine ok_goto F 117 dX1_layChange_113 (by decide) ?_
                        refine ok_iand F dX1_layChange_117 ?_
                        refine ok_istore (lv' := [(5, pI (iand sm 1)), (0, pR 186), (1, pR 21), (2, pR R), (3, pI n), (4, pI high), (6, pI k), (7, pI mo)]) F dX1_layChange_118 (by decide) rfl ?_
                        refine ok_aload_n F dX1_layChange_120 1 rfl ?_
                        refine ok_getr F dX1_layChange_121 kF_X1_9 sh_186 rfl ?_
                        refine ok_iload F dX1_layChange_124 6 rfl ?_
                        refine ok_aload_n F dX1_layChange_126 2 rfl ?_
                        refine ok_getr F dX1_layChange_127 kF_X1_48 sh_21 rfl ?_
                        refine ok_iload F dX1_layChange_130 6 rfl ?_
                        refine ok_iald (v := mem 22 k.toNat) F dX1_layChange_132 sh_22 (by first | decide | assumption) (by omega) (by omega) (by rw [h22] <;> rfl) ?_
                        refine ok_iast F dX1_layChange_133 sh_190 (by first | decide | assumption) (by omega) (by omega) (fun m_30 e_31 => ?_)
                        refine ok_aload_n F dX1_layChange_134 1 rfl ?_
                        refine ok_getr F dX1_layChange_135 kF_X1_15 sh_186 rfl ?_
                        refine ok_iload F dX1_layChange_138 6 rfl ?_
                        refine ok_iload F dX1_layChange_140 7 rfl ?_
                        refine ok_iast F dX1_layChange_142 sh_191 (by first | decide | assumption) (by omega) (by omega) (fun m_32 e_33 => ?_)
                        refine ok_aload_n F dX1_layChange_143 1 rfl ?_
                        refine ok_getr F dX1_layChange_144 kF_X1_18 sh_186 rfl ?_
                        refine ok_iload F dX1_layChange_147 6 rfl ?_
                        refine ok_iconst F dX1_layChange_149 ?_
                        refine ok_iast F dX1_layChange_150 sh_192 (by first | decide | assumption) (by omega) (by omega) (fun m_34 e_35 => ?_)
                        refine ok_iinc (lv' := [(6, pI (k + 1)), (5, pI (iand sm 1)), (0, pR 186), (1, pR 21), (2, pR R), (3, pI n), (4, pI high), (7, pI mo)]) F dX1_layChange_151 6 rfl (by decide) rfl ?_
                        refine ok_goto F 58 dX1_layChange_154 (by decide) ?_
                        refine ok_lvp [2, 3, 4, 5, 6, 1, 0] (lv' := [(0, pR 186), (1, pR 21), (2, pR R), (3, pI n), (4, pI high), (5, pI (iand sm 1)), (6, pI (k + 1))]) rfl ?_
                        refine ih_58 _ ?_ (iand sm 1) (k + 1) m_34 ?_ rfl
                        · omega
                        · have e22 : ∀ j, m_34 22 j = mem 22 j := fun j => by rw [e_35, e_33, e_31, mset_nk (by decide), mset_nk (by decide), mset_nk (by decide), h22]
                          refine ⟨by omega, by omega, ?_, fun a a1 a2 a3 => by rw [e_35, e_33, e_31, mset_nka a3, mset_nka a2, mset_nka a1]; exact hF a a1 a2 a3, fun i => ?_, fun i => ?_, fun i => ?_, fun q => ?_⟩
                          · first | (rw [(iand_bit hsm).1]; exact hsm) | (rw [(iand_bit hsm).2]; exact Or.inl rfl)
                          · rw [e_35, e_33, e_31, mset_nk (by decide), mset_nk (by decide)]; by_cases e : i = k.toNat; (subst e; rw [mset_eq, if_pos (by omega)]); (rw [mset_ne (fun q => e q.2), h190]; by_cases g : (i : Int) < k; (rw [if_pos g, if_pos (by omega)]); (rw [if_neg g, if_neg (by omega)]))
                          · rw [e_35, e_33, e_31, mset_nk (by decide)]; by_cases e : i = k.toNat; (subst e; rw [mset_eq, if_pos (by omega : ((k.toNat : Nat) : Int) < k + 1), hmo, show ((k.toNat : Nat) : Int) = k by omega]); (rw [mset_ne (fun q => e q.2), mset_nk (by decide), h191]; by_cases g : (i : Int) < k; (rw [if_pos g, if_pos (by omega : (i : Int) < k + 1)]); (rw [if_neg g, if_neg (by omega : ¬ (i : Int) < k + 1)]))
                          · rw [e_35, e_33, e_31]; by_cases e : i = k.toNat; (subst e; rw [mset_eq, if_pos (by omega)]); (rw [mset_ne (fun q => e q.2), mset_nk (by decide), mset_nk (by decide), h192]; by_cases g : (i : Int) < k; (rw [if_pos g, if_pos (by omega)]); (rw [if_neg g, if_neg (by omega)]))
                          · first
                            | (rw [(iand_bit hsm).2] at q; omega)
                            | (rw [(iand_bit hsm).1] at q; refine ⟨(hsame q).1, fun i hi => ?_⟩; by_cases e : i = k.toNat; (subst e; rw [show ((k.toNat : Nat) : Int) = k by omega, ← hmo]; exact ⟨by omega, by omega⟩); exact (hsame q).2 i (by omega))
                  refine ok_iload F dX1_layChange_65 6 rfl ?_
                  refine ok_iload_n F dX1_layChange_67 3 rfl ?_
                  refine ok_icmp_ge F 78 dX1_layChange_68 (by decide) (by omega) (by omega) (fun c_36 => ?_) (fun c_36 => ?_)
                  · refine ok_iconst F dX1_layChange_78 ?_
                    refine ok_istore (lv' := [(7, pI 0), (0, pR 186), (1, pR 21), (2, pR R), (3, pI n), (4, pI high), (5, pI sm), (6, pI k)]) F dX1_layChange_79 (by decide) rfl ?_
                    refine ok_lvp [1, 2, 3, 4, 5, 6, 7, 0] (lv' := [(0, pR 186), (1, pR 21), (2, pR R), (3, pI n), (4, pI high), (5, pI sm), (6, pI k), (7, pI 0)]) rfl ?_
                    refine hJ_81 0 ?_
                    first | rw [if_pos (by omega), hF R (by omega) (by omega) (by omega)] | rw [if_neg (by omega)]
                  · refine ok_aload_n F dX1_layChange_71 2 rfl ?_
                    refine ok_iload F dX1_layChange_72 6 rfl ?_
                    refine ok_iald (v := m R k.toNat) F dX1_layChange_74 hR (by first | decide | assumption) (by omega) (by omega) rfl ?_
                    refine ok_goto F 79 dX1_layChange_75 (by decide) ?_
                    refine ok_istore (lv' := [(7, pI (m R k.toNat)), (0, pR 186), (1, pR 21), (2, pR R), (3, pI n), (4, pI high), (5, pI sm), (6, pI k)]) F dX1_layChange_79 (by decide) rfl ?_
                    refine ok_lvp [1, 2, 3, 4, 5, 6, 7, 0] (lv' := [(0, pR 186), (1, pR 21), (2, pR R), (3, pI n), (4, pI high), (5, pI sm), (6, pI k), (7, pI (m R k.toNat))]) rfl ?_
                    refine hJ_81 (m R k.toNat) ?_
                    first | rw [if_pos (by omega), hF R (by omega) (by omega) (by omega)] | rw [if_neg (by omega)]
            refine ok_lvp [1, 2, 3, 4, 5, 6, 0] (lv' := [(0, pR 186), (1, pR 21), (2, pR R), (3, pI n), (4, pI high), (5, pI s0), (6, pI 0)]) rfl ?_
            refine hL_58 _ s0 0 mem ?_ rfl
            exact ⟨by omega, by omega, hs01, fun _ _ _ _ => rfl, fun i => (if_neg (by omega)).symm, fun i => (if_neg (by omega)).symm, fun i => (if_neg (by omega)).symm, fun q => ⟨hs02 q, fun i hi => by omega⟩⟩
          refine ok_if_ne F 52 dX1_layChange_28 (by decide) (by omega) (fun c_37 => ?_) (fun c_37 => ?_)
          · refine ok_iconst F dX1_layChange_52 ?_
            refine ok_istore (lv' := [(5, pI 0), (0, pR 186), (1, pR 21), (2, pR R), (3, pI n), (4, pI high)]) F dX1_layChange_53 (by decide) rfl ?_
            refine ok_lvp [1, 2, 3, 4, 5, 0] (lv' := [(0, pR 186), (1, pR 21), (2, pR R), (3, pI n), (4, pI high), (5, pI 0)]) rfl ?_
            refine hJ_55 0 ?_
            first | exact ⟨Or.inr rfl, fun _ => ⟨by omega, by omega, by omega⟩⟩ | exact ⟨Or.inl rfl, fun q => by omega⟩
          · refine ok_aload_n F dX1_layChange_31 0 rfl ?_
            refine ok_getf (v := mem 186 5) F dX1_layChange_32 kF_X1_21 sh_186 rfl rfl ?_
            refine ok_iload F dX1_layChange_35 4 rfl ?_
            refine ok_icmp_lt F 52 dX1_layChange_37 (by decide) (by omega) (by omega) (fun c_38 => ?_) (fun c_38 => ?_)
            · refine ok_iconst F dX1_layChange_52 ?_
              refine ok_istore (lv' := [(5, pI 0), (0, pR 186), (1, pR 21), (2, pR R), (3, pI n), (4, pI high)]) F dX1_layChange_53 (by decide) rfl ?_
              refine ok_lvp [1, 2, 3, 4, 5, 0] (lv' := [(0, pR 186), (1, pR 21), (2, pR R), (3, pI n), (4, pI high), (5, pI 0)]) rfl ?_
              refine hJ_55 0 ?_
              first | exact ⟨Or.inr rfl, fun _ => ⟨by omega, by omega, by omega⟩⟩ | exact ⟨Or.inl rfl, fun q => by omega⟩
            · refine ok_aload_n F dX1_layChange_40 0 rfl ?_
              refine ok_getf (v := mem 186 3) F dX1_layChange_41 kF_X1_45 sh_186 rfl rfl ?_
              refine ok_iload_n F dX1_layChange_44 3 rfl ?_
              refine ok_icmp_ne F 52 dX1_layChange_45 (by decide) (by omega) (by omega) (fun c_39 => ?_) (fun c_39 => ?_)
              · refine ok_iconst F dX1_layChange_52 ?_
                refine ok_istore (lv' := [(5, pI 0), (0, pR 186), (1, pR 21), (2, pR R), (3, pI n), (4, pI high)]) F dX1_layChange_53 (by decide) rfl ?_
                refine ok_lvp [1, 2, 3, 4, 5, 0] (lv' := [(0, pR 186), (1, pR 21), (2, pR R), (3, pI n), (4, pI high), (5, pI 0)]) rfl ?_
                refine hJ_55 0 ?_
                first | exact ⟨Or.inr rfl, fun _ => ⟨by omega, by omega, by omega⟩⟩ | exact ⟨Or.inl rfl, fun q => by omega⟩
              · refine ok_iconst F dX1_layChange_48 ?_
                refine ok_goto F 53 dX1_layChange_49 (by decide) ?_
                refine ok_istore (lv' := [(5, pI 1), (0, pR 186), (1, pR 21), (2, pR R), (3, pI n), (4, pI high)]) F dX1_layChange_53 (by decide) rfl ?_
                refine ok_lvp [1, 2, 3, 4, 5, 0] (lv' := [(0, pR 186), (1, pR 21), (2, pR R), (3, pI n), (4, pI high), (5, pI 1)]) rfl ?_
                refine hJ_55 1 ?_
                first | exact ⟨Or.inr rfl, fun _ => ⟨by omega, by omega, by omega⟩⟩ | exact ⟨Or.inl rfl, fun q => by omega⟩
        · exfalso; omega
theorem dX1_laySettling_0 : decode cX1_laySettling 0 = .ok (.aload_n 0, 1) := by decide +kernel
theorem dX1_laySettling_1 : decode cX1_laySettling 1 = .ok (.getfield 42, 3) := by decide +kernel
theorem dX1_laySettling_4 : decode cX1_laySettling 4 = .ok (.sipush 2000, 3) := by decide +kernel
theorem dX1_laySettling_7 : decode cX1_laySettling 7 = .ok (.if_icmp .ne 18, 3) := by decide +kernel
theorem dX1_laySettling_10 : decode cX1_laySettling 10 = .ok (.aload_n 0, 1) := by decide +kernel
theorem dX1_laySettling_11 : decode cX1_laySettling 11 = .ok (.getfield 45, 3) := by decide +kernel
theorem dX1_laySettling_14 : decode cX1_laySettling 14 = .ok (.aload_n 1, 1) := by decide +kernel
theorem dX1_laySettling_15 : decode cX1_laySettling 15 = .ok (.getfield 54, 3) := by decide +kernel
theorem dX1_laySettling_18 : decode cX1_laySettling 18 = .ok (.if_icmp .ne 7, 3) := by decide +kernel
theorem dX1_laySettling_21 : decode cX1_laySettling 21 = .ok (.iconst 1, 1) := by decide +kernel
theorem dX1_laySettling_22 : decode cX1_laySettling 22 = .ok (.goto 4, 3) := by decide +kernel
theorem dX1_laySettling_25 : decode cX1_laySettling 25 = .ok (.iconst 0, 1) := by decide +kernel
theorem dX1_laySettling_26 : decode cX1_laySettling 26 = .ok (.istore_n 2, 1) := by decide +kernel
theorem dX1_laySettling_27 : decode cX1_laySettling 27 = .ok (.iconst 0, 1) := by decide +kernel
theorem dX1_laySettling_28 : decode cX1_laySettling 28 = .ok (.istore_n 3, 1) := by decide +kernel
theorem dX1_laySettling_29 : decode cX1_laySettling 29 = .ok (.iload_n 3, 1) := by decide +kernel
theorem dX1_laySettling_30 : decode cX1_laySettling 30 = .ok (.bipush 8, 2) := by decide +kernel
theorem dX1_laySettling_32 : decode cX1_laySettling 32 = .ok (.if_icmp .ge 98, 3) := by decide +kernel
theorem dX1_laySettling_35 : decode cX1_laySettling 35 = .ok (.iload_n 2, 1) := by decide +kernel
theorem dX1_laySettling_36 : decode cX1_laySettling 36 = .ok (.aload_n 0, 1) := by decide +kernel
theorem dX1_laySettling_37 : decode cX1_laySettling 37 = .ok (.getfield 9, 3) := by decide +kernel
theorem dX1_laySettling_40 : decode cX1_laySettling 40 = .ok (.iload_n 3, 1) := by decide +kernel
theorem dX1_laySettling_41 : decode cX1_laySettling 41 = .ok (.iaload, 1) := by decide +kernel
theorem dX1_laySettling_42 : decode cX1_laySettling 42 = .ok (.aload_n 1, 1) := by decide +kernel
theorem dX1_laySettling_43 : decode cX1_laySettling 43 = .ok (.getfield 48, 3) := by decide +kernel
theorem dX1_laySettling_46 : decode cX1_laySettling 46 = .ok (.iload_n 3, 1) := by decide +kernel
theorem dX1_laySettling_47 : decode cX1_laySettling 47 = .ok (.iaload, 1) := by decide +kernel
theorem dX1_laySettling_48 : decode cX1_laySettling 48 = .ok (.if_icmp .ne 37, 3) := by decide +kernel
theorem dX1_laySettling_51 : decode cX1_laySettling 51 = .ok (.aload_n 0, 1) := by decide +kernel
theorem dX1_laySettling_52 : decode cX1_laySettling 52 = .ok (.getfield 15, 3) := by decide +kernel
theorem dX1_laySettling_55 : decode cX1_laySettling 55 = .ok (.iload_n 3, 1) := by decide +kernel
theorem dX1_laySettling_56 : decode cX1_laySettling 56 = .ok (.iaload, 1) := by decide +kernel
theorem dX1_laySettling_57 : decode cX1_laySettling 57 = .ok (.aload_n 1, 1) := by decide +kernel
theorem dX1_laySettling_58 : decode cX1_laySettling 58 = .ok (.getfield 55, 3) := by decide +kernel
theorem dX1_laySettling_61 : decode cX1_laySettling 61 = .ok (.iload_n 3, 1) := by decide +kernel
theorem dX1_laySettling_62 : decode cX1_laySettling 62 = .ok (.iaload, 1) := by decide +kernel
theorem dX1_laySettling_63 : decode cX1_laySettling 63 = .ok (.if_icmp .ne 22, 3) := by decide +kernel
theorem dX1_laySettling_66 : decode cX1_laySettling 66 = .ok (.aload_n 0, 1) := by decide +kernel
theorem dX1_laySettling_67 : decode cX1_laySettling 67 = .ok (.getfield 18, 3) := by decide +kernel
theorem dX1_laySettling_70 : decode cX1_laySettling 70 = .ok (.iload_n 3, 1) := by decide +kernel
theorem dX1_laySettling_71 : decode cX1_laySettling 71 = .ok (.iaload, 1) := by decide +kernel
theorem dX1_laySettling_72 : decode cX1_laySettling 72 = .ok (.aload_n 1, 1) := by decide +kernel
theorem dX1_laySettling_73 : decode cX1_laySettling 73 = .ok (.getfield 58, 3) := by decide +kernel
theorem dX1_laySettling_76 : decode cX1_laySettling 76 = .ok (.iload_n 3, 1) := by decide +kernel
theorem dX1_laySettling_77 : decode cX1_laySettling 77 = .ok (.iaload, 1) := by decide +kernel
theorem dX1_laySettling_78 : decode cX1_laySettling 78 = .ok (.if_icmp .ne 7, 3) := by decide +kernel
theorem dX1_laySettling_81 : decode cX1_laySettling 81 = .ok (.iconst 1, 1) := by decide +kernel
theorem dX1_laySettling_82 : decode cX1_laySettling 82 = .ok (.goto 4, 3) := by decide +kernel
theorem dX1_laySettling_85 : decode cX1_laySettling 85 = .ok (.iconst 0, 1) := by decide +kernel
theorem dX1_laySettling_86 : decode cX1_laySettling 86 = .ok (.iand, 1) := by decide +kernel
theorem dX1_laySettling_87 : decode cX1_laySettling 87 = .ok (.istore_n 2, 1) := by decide +kernel
theorem dX1_laySettling_88 : decode cX1_laySettling 88 = .ok (.aload_n 0, 1) := by decide +kernel
theorem dX1_laySettling_89 : decode cX1_laySettling 89 = .ok (.getfield 9, 3) := by decide +kernel
theorem dX1_laySettling_92 : decode cX1_laySettling 92 = .ok (.iload_n 3, 1) := by decide +kernel
theorem dX1_laySettling_93 : decode cX1_laySettling 93 = .ok (.aload_n 1, 1) := by decide +kernel
theorem dX1_laySettling_94 : decode cX1_laySettling 94 = .ok (.getfield 48, 3) := by decide +kernel
theorem dX1_laySettling_97 : decode cX1_laySettling 97 = .ok (.iload_n 3, 1) := by decide +kernel
theorem dX1_laySettling_98 : decode cX1_laySettling 98 = .ok (.iaload, 1) := by decide +kernel
theorem dX1_laySettling_99 : decode cX1_laySettling 99 = .ok (.iastore, 1) := by decide +kernel
theorem dX1_laySettling_100 : decode cX1_laySettling 100 = .ok (.aload_n 0, 1) := by decide +kernel
theorem dX1_laySettling_101 : decode cX1_laySettling 101 = .ok (.getfield 15, 3) := by decide +kernel
theorem dX1_laySettling_104 : decode cX1_laySettling 104 = .ok (.iload_n 3, 1) := by decide +kernel
theorem dX1_laySettling_105 : decode cX1_laySettling 105 = .ok (.aload_n 1, 1) := by decide +kernel
theorem dX1_laySettling_106 : decode cX1_laySettling 106 = .ok (.getfield 55, 3) := by decide +kernel
theorem dX1_laySettling_109 : decode cX1_laySettling 109 = .ok (.iload_n 3, 1) := by decide +kernel
theorem dX1_laySettling_110 : decode cX1_laySettling 110 = .ok (.iaload, 1) := by decide +kernel
theorem dX1_laySettling_111 : decode cX1_laySettling 111 = .ok (.iastore, 1) := by decide +kernel
theorem dX1_laySettling_112 : decode cX1_laySettling 112 = .ok (.aload_n 0, 1) := by decide +kernel
theorem dX1_laySettling_113 : decode cX1_laySettling 113 = .ok (.getfield 18, 3) := by decide +kernel
theorem dX1_laySettling_116 : decode cX1_laySettling 116 = .ok (.iload_n 3, 1) := by decide +kernel
theorem dX1_laySettling_117 : decode cX1_laySettling 117 = .ok (.aload_n 1, 1) := by decide +kernel
theorem dX1_laySettling_118 : decode cX1_laySettling 118 = .ok (.getfield 58, 3) := by decide +kernel
theorem dX1_laySettling_121 : decode cX1_laySettling 121 = .ok (.iload_n 3, 1) := by decide +kernel
theorem dX1_laySettling_122 : decode cX1_laySettling 122 = .ok (.iaload, 1) := by decide +kernel
theorem dX1_laySettling_123 : decode cX1_laySettling 123 = .ok (.iastore, 1) := by decide +kernel
theorem dX1_laySettling_124 : decode cX1_laySettling 124 = .ok (.iinc 3 1, 3) := by decide +kernel
theorem dX1_laySettling_127 : decode cX1_laySettling 127 = .ok (.goto (-98), 3) := by decide +kernel
theorem dX1_laySettling_130 : decode cX1_laySettling 130 = .ok (.iload_n 2, 1) := by decide +kernel
theorem dX1_laySettling_131 : decode cX1_laySettling 131 = .ok (.ifCond .ne 29, 3) := by decide +kernel
theorem dX1_laySettling_134 : decode cX1_laySettling 134 = .ok (.aload_n 0, 1) := by decide +kernel
theorem dX1_laySettling_135 : decode cX1_laySettling 135 = .ok (.sipush 2000, 3) := by decide +kernel
theorem dX1_laySettling_138 : decode cX1_laySettling 138 = .ok (.putfield 42, 3) := by decide +kernel
theorem dX1_laySettling_141 : decode cX1_laySettling 141 = .ok (.aload_n 0, 1) := by decide +kernel
theorem dX1_laySettling_142 : decode cX1_laySettling 142 = .ok (.sipush 2000, 3) := by decide +kernel
theorem dX1_laySettling_145 : decode cX1_laySettling 145 = .ok (.putfield 21, 3) := by decide +kernel
theorem dX1_laySettling_148 : decode cX1_laySettling 148 = .ok (.aload_n 0, 1) := by decide +kernel
theorem dX1_laySettling_149 : decode cX1_laySettling 149 = .ok (.aload_n 1, 1) := by decide +kernel
theorem dX1_laySettling_150 : decode cX1_laySettling 150 = .ok (.getfield 54, 3) := by decide +kernel
theorem dX1_laySettling_153 : decode cX1_laySettling 153 = .ok (.putfield 45, 3) := by decide +kernel
theorem dX1_laySettling_156 : decode cX1_laySettling 156 = .ok (.aload_n 0, 1) := by decide +kernel
theorem dX1_laySettling_157 : decode cX1_laySettling 157 = .ok (.invokevirtual 51, 3) := by decide +kernel
theorem dX1_laySettling_160 : decode cX1_laySettling 160 = .ok (.return_, 1) := by decide +kernel
set_option maxHeartbeats 4000000 in
set_option maxRecDepth 100000 in
theorem m_X1_laySettling (l : Launch) (mem : Mem) (hFI : FI mem) (hN : 0 ≤ mem 21 0 ∧ mem 21 0 ≤ 8) (hV : ∀ i : Nat, i < 8 → 0 ≤ mem 22 i ∧ mem 22 i ≤ 500) (hV1 : ∀ i : Nat, (i : Int) < mem 21 0 → 1 ≤ mem 22 i) (hPu : ∀ i : Nat, i < 8 → 0 ≤ mem 24 i ∧ mem 24 i ≤ 200) (hTl : ∀ i : Nat, i < 8 → 0 ≤ mem 23 i ∧ mem 23 i ≤ 200) : Ret shp l yX1_laySettling cX1_laySettling 4 none 2 [pR 186, pR 21] mem (fun rv mv => rv = none ∧ LaidS mem mv) := by
  refine ret_of (by decide +kernel) (Nat.le_of_ble_eq_true rfl) (fun X hX F G => ?_)
  show Ok shp X 4 0 [(0, pR 186), (1, pR 21)] [] mem
  obtain ⟨f1, f2, f3, f4⟩ := hFI.bd
  refine ok_aload_n F dX1_laySettling_0 0 rfl ?_
  refine ok_getf (v := mem 186 4) F dX1_laySettling_1 kF_X1_42 sh_186 rfl rfl ?_
  refine ok_sipush F dX1_laySettling_4 rfl ?_
  have hJ_27 : ∀ (s0 : Int), ((s0 = 0 ∨ s0 = 1) ∧ (s0 = 1 → mem 186 4 = 2000 ∧ mem 186 3 = mem 21 0)) → Ok shp X 4 27 [(0, pR 186), (1, pR 21), (2, pI s0)] [] mem := by
    intro s0 hI_27
    obtain ⟨hs01, hs02⟩ := hI_27
    refine ok_iconst F dX1_laySettling_27 ?_
    refine ok_istore_n (lv' := [(3, pI 0), (0, pR 186), (1, pR 21), (2, pI s0)]) F dX1_laySettling_28 (by decide) rfl ?_
    have hL_29 : ∀ (n_29 : Nat) (sm : Int) (k : Int) (m : Mem), (0 ≤ k ∧ k ≤ 8 ∧ (sm = 0 ∨ sm = 1) ∧ (∀ a, a ≠ 190 → a ≠ 191 → a ≠ 192 → m a = mem a) ∧ (∀ i : Nat, m 190 i = if (i : Int) < k then mem 22 i else mem 190 i) ∧ (∀ i : Nat, m 191 i = if (i : Int) < k then mem 24 i else mem 191 i) ∧ (∀ i : Nat, m 192 i = if (i : Int) < k then mem 23 i else mem 192 i) ∧ (sm = 1 → (mem 186 4 = 2000 ∧ mem 186 3 = mem 21 0) ∧ ∀ i : Nat, (i : Int) < k → mem 190 i = mem 22 i ∧ mem 191 i = mem 24 i ∧ mem 192 i = mem 23 i)) → (8 - k).toNat = n_29 → Ok shp X 4 29 [(0, pR 186), (1, pR 21), (2, pI sm), (3, pI k)] [] m := by
      intro n_29
      induction n_29 using Nat.strongRecOn with
      | _ n_29 ih_29 =>
        intro sm k m hI_29 hn_29
        obtain ⟨hk0, hk1, hsm, hF, h190, h191, h192, hsame⟩ := hI_29
        have h186 := hF 186 (by decide) (by decide) (by decide)
        have h21 := hF 21 (by decide) (by decide) (by decide)
        have h22 := hF 22 (by decide) (by decide) (by decide)
        have h23 := hF 23 (by decide) (by decide) (by decide)
        have h24 := hF 24 (by decide) (by decide) (by decide)
        refine ok_iload_n F dX1_laySettling_29 3 rfl ?_
        refine ok_bipush F dX1_laySettling_30 rfl ?_
        refine ok_icmp_ge F 130 dX1_laySettling_32 (by decide) (by omega) (by omega) (fun c_1 => ?_) (fun c_1 => ?_)
        · refine ok_iload_n F dX1_laySettling_130 2 rfl ?_
          refine ok_if_ne F 160 dX1_laySettling_131 (by decide) (by omega) (fun c_2 => ?_) (fun c_2 => ?_)
          · refine ok_vret F G dX1_laySettling_160 ?_
            refine ⟨rfl, ?_⟩
            first
              | (have v0 := r1 190 (by decide); have v1 := r1 191 (by decide); have v2 := r1 192 (by decide); have v6 := r1 186 (by decide)
                 refine ⟨fun a ha => by rw [r1 a (by omega), eo a (by omega)]; exact hF a (by omega) (by omega) (by omega), ⟨by rw [v6]; exact e3, by rw [v6]; exact e4, by rw [v6]; exact e5, hN, by decide, by decide, ?_, ?_, ?_, ?_, ?_⟩, fun i hi => by rw [v0, v1, v2]; exact ⟨n190 i hi, n191 i hi, n192 i hi⟩⟩
                 · rw [v0]; exact fun i hi => by rw [n190 i (by omega)]; exact ⟨hV1 i hi, (hV i (by omega)).2⟩
                 · rw [v1]; exact fun i hi => by rw [n191 i hi]; exact hPu i hi
                 · rw [v2]; exact fun i hi => by rw [n192 i hi]; exact hTl i hi
                 · rw [v0, v1, v2]; exact stlT_ok (fun i hi => ⟨by rw [n191 i (by omega)]; exact (hPu i (by omega)).1, by rw [n192 i (by omega)]; exact (hTl i (by omega)).1, by rw [n190 i (by omega)]; exact (hV i (by omega)).1⟩)
                 · rw [v0, v1, v2]; exact r2)
              | (have q1 : sm = 1 := by omega
                 obtain ⟨⟨a1, a3⟩, a4⟩ := hsame q1
                 rcases hFI with ⟨b1, b2, b3, b4⟩ | ⟨T, K, hw, hz⟩ | ⟨K, hw, hz⟩
                 · exfalso; omega
                 · exfalso; have := hw.2.1; omega
                 · have w3 := hw.1
                   have m0 : m 190 = mem 190 := by funext i; rw [h190]; by_cases g : (i : Int) < k; (rw [if_pos g]; exact (a4 i g).1.symm); exact if_neg g
                   have m1 : m 191 = mem 191 := by funext i; rw [h191]; by_cases g : (i : Int) < k; (rw [if_pos g]; exact (a4 i g).2.1.symm); exact if_neg g
                   have m2 : m 192 = mem 192 := by funext i; rw [h192]; by_cases g : (i : Int) < k; (rw [if_pos g]; exact (a4 i g).2.2.symm); exact if_neg g
                   have hall : ∀ a, m a = mem a := fun a => by by_cases g0 : a = 190; (rw [g0]; exact m0); by_cases g1 : a = 191; (rw [g1]; exact m1); by_cases g2 : a = 192; (rw [g2]; exact m2); exact hF a g0 g1 g2
                   refine ⟨fun a _ => hall a, ?_, fun i hi => by rw [m0, m1, m2]; exact a4 i (by omega)⟩
                   rw [m0, m1, m2, ← a3, w3]
                   exact hw.congr (fun a _ _ _ _ _ => hall a))
          · refine ok_aload_n F dX1_laySettling_134 0 rfl ?_
            refine ok_sipush F dX1_laySettling_135 rfl ?_
            refine ok_putf F dX1_laySettling_138 kF_X1_42 sh_186 rfl rfl rfl (fun m_3 e_4 => ?_)
            refine ok_aload_n F dX1_laySettling_141 0 rfl ?_
            refine ok_sipush F dX1_laySettling_142 rfl ?_
            refine ok_putf F dX1_laySettling_145 kF_X1_21 sh_186 rfl rfl rfl (fun m_5 e_6 => ?_)
            refine ok_aload_n F dX1_laySettling_148 0 rfl ?_
            refine ok_aload_n F dX1_laySettling_149 1 rfl ?_
            refine ok_getf (v := mem 21 0) F dX1_laySettling_150 kF_X1_54 sh_21 rfl (by rw [e_6, mset_nk (by decide), e_4, mset_nk (by decide), h21] <;> rfl) ?_
            refine ok_putf F dX1_laySettling_153 kF_X1_45 sh_186 rfl rfl rfl (fun m_7 e_8 => ?_)
            have e3 : m_7 186 3 = mem 21 0 := by rw [e_8, e_6, e_4, mset_eq]
            have e4 : m_7 186 4 = 2000 := by rw [e_8, e_6, e_4, mset_ne (by decide), mset_ne (by decide), mset_eq]
            have e5 : m_7 186 5 = 2000 := by rw [e_8, e_6, e_4, mset_ne (by decide), mset_eq]
            have eo : ∀ a, a ≠ 186 → m_7 a = m a := fun a ha => by rw [e_8, e_6, e_4, mset_nka ha, mset_nka ha, mset_nka ha]
            have n190 : ∀ i : Nat, i < 8 → m_7 190 i = mem 22 i := fun i hi => by rw [eo 190 (by decide), h190, if_pos (by omega)]
            have n191 : ∀ i : Nat, i < 8 → m_7 191 i = mem 24 i := fun i hi => by rw [eo 191 (by decide), h191, if_pos (by omega)]
            have n192 : ∀ i : Nat, i < 8 → m_7 192 i = mem 23 i := fun i hi => by rw [eo 192 (by decide), h192, if_pos (by omega)]
            obtain ⟨mP, hmP⟩ : ∃ x, x = m_7 := ⟨_, rfl⟩
            rw [← hmP] at e3 e4 e5 eo n190 n191 n192
            refine ok_aload_n F dX1_laySettling_156 0 rfl ?_
            refine ok_callv F [] dX1_laySettling_157 kM_X1_layLevels kI_X1_layLevels kV_X1_layLevels kL_X1_51 (ci := 1) rfl sh_186 rfl (by decide) (Nat.le_of_ble_eq_true rfl) rfl (m_X1_layLevels _ (stlT (m_7 190) (m_7 191) (m_7 192)) m_7 (by rw [← hmP, e3]; exact hN) (by rw [← hmP, e4]; decide) (by rw [← hmP, e4, e5]; decide) (by rw [← hmP, e3]; exact fun i hi => by rw [n190 i (by omega)]; exact ⟨hV1 i hi, (hV i (by omega)).2⟩) (by rw [← hmP, e3]; exact fun i hi => by rw [n191 i (by omega)]; exact hPu i (by omega)) (by rw [← hmP, e3]; exact fun i hi => by rw [n192 i (by omega)]; exact hTl i (by omega)) (by rw [← hmP, e3, e4, e5]; exact stlT_ok (fun i hi => ⟨by rw [n191 i (by omega)]; exact (hPu i (by omega)).1, by rw [n192 i (by omega)]; exact (hTl i (by omega)).1, by rw [n190 i (by omega)]; exact (hV i (by omega)).1⟩))) ?_
            rintro _ m_10 ⟨rfl, r_11⟩
            obtain ⟨r1, r2⟩ := id r_11
            rw [← hmP] at r1 r2
            rw [e3, e4, e5] at r2
            refine ok_vret F G dX1_laySettling_160 ?_
            refine ⟨rfl, ?_⟩
            first
              | (have v0 := r1 190 (by decide); have v1 := r1 191 (by decide); have v2 := r1 192 (by decide); have v6 := r1 186 (by decide)
                 refine ⟨fun a ha => by rw [r1 a (by omega), eo a (by omega)]; exact hF a (by omega) (by omega) (by omega), ⟨by rw [v6]; exact e3, by rw [v6]; exact e4, by rw [v6]; exact e5, hN, by decide, by decide, ?_, ?_, ?_, ?_, ?_⟩, fun i hi => by rw [v0, v1, v2]; exact ⟨n190 i hi, n191 i hi, n192 i hi⟩⟩
                 · rw [v0]; exact fun i hi => by rw [n190 i (by omega)]; exact ⟨hV1 i hi, (hV i (by omega)).2⟩
                 · rw [v1]; exact fun i hi => by rw [n191 i hi]; exact hPu i hi
                 · rw [v2]; exact fun i hi => by rw [n192 i hi]; exact hTl i hi
                 · rw [v0, v1, v2]; exact stlT_ok (fun i hi => ⟨by rw [n191 i (by omega)]; exact (hPu i (by omega)).1, by rw [n192 i (by omega)]; exact (hTl i (by omega)).1, by rw [n190 i (by omega)]; exact (hV i (by omega)).1⟩)
                 · rw [v0, v1, v2]; exact r2)
              | (have q1 : sm = 1 := by omega
                 obtain ⟨⟨a1, a3⟩, a4⟩ := hsame q1
                 rcases hFI with ⟨b1, b2, b3, b4⟩ | ⟨T, K, hw, hz⟩ | ⟨K, hw, hz⟩
                 · exfalso; omega
                 · exfalso; have := hw.2.1; omega
                 · have w3 := hw.1
                   have m0 : m 190 = mem 190 := by funext i; rw [h190]; by_cases g : (i : Int) < k; (rw [if_pos g]; exact (a4 i g).1.symm); exact if_neg g
                   have m1 : m 191 = mem 191 := by funext i; rw [h191]; by_cases g : (i : Int) < k; (rw [if_pos g]; exact (a4 i g).2.1.symm); exact if_neg g
                   have m2 : m 192 = mem 192 := by funext i; rw [h192]; by_cases g : (i : Int) < k; (rw [if_pos g]; exact (a4 i g).2.2.symm); exact if_neg g
                   have hall : ∀ a, m a = mem a := fun a => by by_cases g0 : a = 190; (rw [g0]; exact m0); by_cases g1 : a = 191; (rw [g1]; exact m1); by_cases g2 : a = 192; (rw [g2]; exact m2); exact hF a g0 g1 g2
                   refine ⟨fun a _ => hall a, ?_, fun i hi => by rw [m0, m1, m2]; exact a4 i (by omega)⟩
                   rw [m0, m1, m2, ← a3, w3]
                   exact hw.congr (fun a _ _ _ _ _ => hall a))
        · have g190 : m 190 k.toNat = mem 190 k.toNat := by rw [h190, if_neg (by omega)]
          have g191 : m 191 k.toNat = mem 191 k.toNat := by rw [h191, if_neg (by omega)]
          have g192 : m 192 k.toNat = mem 192 k.toNat := by rw [h192, if_neg (by omega)]
          have q4 := f4 k.toNat (by omega)
          have qV := hV k.toNat (by omega)
          have qP := hPu k.toNat (by omega)
          have qT := hTl k.toNat (by omega)
          refine ok_iload_n F dX1_laySettling_35 2 rfl ?_
          refine ok_aload_n F dX1_laySettling_36 0 rfl ?_
          refine ok_getr F dX1_laySettling_37 kF_X1_9 sh_186 rfl ?_
          refine ok_iload_n F dX1_laySettling_40 3 rfl ?_
          refine ok_iald (v := m 190 k.toNat) F dX1_laySettling_41 sh_190 (by first | decide | assumption) (by omega) (by omega) rfl ?_
          refine ok_aload_n F dX1_laySettling_42 1 rfl ?_
          refine ok_getr F dX1_laySettling_43 kF_X1_48 sh_21 rfl ?_
          refine ok_iload_n F dX1_laySettling_46 3 rfl ?_
          refine ok_iald (v := mem 22 k.toNat) F dX1_laySettling_47 sh_22 (by first | decide | assumption) (by omega) (by omega) (by rw [h22] <;> rfl) ?_
          refine ok_icmp_ne F 85 dX1_laySettling_48 (by decide) (by omega) (by omega) (fun c_12 => ?_) (fun c_12 => ?_)
          · refine ok_iconst F dX1_laySettling_85 ?_
            refine ok_iand F dX1_laySettling_86 ?_
            refine ok_istore_n (lv' := [(2, pI (iand sm 0)), (0, pR 186), (1, pR 21), (3, pI k)]) F dX1_laySettling_87 (by decide) rfl ?_
            refine ok_aload_n F dX1_laySettling_88 1 rfl ?_
            refine ok_getr F dX1_laySettling_89 kF_X1_9 sh_186 rfl ?_
            refine ok_iload_n F dX1_laySettling_92 3 rfl ?_
            refine ok_aload_n F dX1_laySettling_93 2 rfl ?_
            refine ok_getr F dX1_laySettling_94 kF_X1_48 sh_21 rfl ?_
            refine ok_iload_n F dX1_laySettling_97 3 rfl ?_
            refine ok_iald (v := mem 22 k.toNat) F dX1_laySettling_98 sh_22 (by first | decide | assumption) (by omega) (by omega) (by rw [h22] <;> rfl) ?_
            refine ok_iast F dX1_laySettling_99 sh_190 (by first | decide | assumption) (by omega) (by omega) (fun m_13 e_14 => ?_)
            refine ok_aload_n F dX1_laySettling_100 1 rfl ?_
            refine ok_getr F dX1_laySettling_101 kF_X1_15 sh_186 rfl ?_
            refine ok_iload_n F dX1_laySettling_104 3 rfl ?_
            refine ok_aload_n F dX1_laySettling_105 2 rfl ?_
            refine ok_getr F dX1_laySettling_106 kF_X1_55 sh_21 rfl ?_
            refine ok_iload_n F dX1_laySettling_109 3 rfl ?_
            refine ok_iald (v := mem 24 k.toNat) F dX1_laySettling_110 sh_24 (by first | decide | assumption) (by omega) (by omega) (by rw [e_14, mset_nk (by decide), h24] <;> rfl) ?_
            refine ok_iast F dX1_laySettling_111 sh_191 (by first | decide | assumption) (by omega) (by omega) (fun m_15 e_16 => ?_)
            refine ok_aload_n F dX1_laySettling_112 1 rfl ?_
            refine ok_getr F dX1_laySettling_113 kF_X1_18 sh_186 rfl ?_
            refine ok_iload_n F dX1_laySettling_116 3 rfl ?_
            refine ok_aload_n F dX1_laySettling_117 2 rfl ?_
            refine ok_getr F dX1_laySettling_118 kF_X1_58 sh_21 rfl ?_
            refine ok_iload_n F dX1_laySettling_121 3 rfl ?_
            refine ok_iald (v := mem 23 k.toNat) F dX1_laySettling_122 sh_23 (by first | decide | assumption) (by omega) (by omega) (by rw [e_16, mset_nk (by decide), e_14, mset_nk (by decide), h23] <;> rfl) ?_
            refine ok_iast F dX1_laySettling_123 sh_192 (by first | decide | assumption) (by omega) (by omega) (fun m_17 e_18 => ?_)
            refine ok_iinc (lv' := [(3, pI (k + 1)), (2, pI (iand sm 0)), (0, pR 186), (1, pR 21)]) F dX1_laySettling_124 3 rfl (by decide) rfl ?_
            refine ok_goto F 29 dX1_laySettling_127 (by decide) ?_
            refine ok_lvp [2, 3, 1, 0] (lv' := [(0, pR 186), (1, pR 21), (2, pI (iand sm 0)), (3, pI (k + 1))]) rfl ?_
            refine ih_29 _ ?_ (iand sm 0) (k + 1) m_17 ?_ rfl
            · omega
            · refine ⟨by omega, by omega, ?_, fun a a1 a2 a3 => by rw [e_18, e_16, e_14, mset_nka a3, mset_nka a2, mset_nka a1]; exact hF a a1 a2 a3, fun i => ?_, fun i => ?_, fun i => ?_, fun q => ?_⟩
              · first | (rw [(iand_bit hsm).1]; exact hsm) | (rw [(iand_bit hsm).2]; exact Or.inl rfl)
              · rw [e_18, e_16, e_14, mset_nk (by decide), mset_nk (by decide)]; by_cases e : i = k.toNat; (subst e; rw [mset_eq, if_pos (by omega)]); (rw [mset_ne (fun q => e q.2), h190]; by_cases g : (i : Int) < k; (rw [if_pos g, if_pos (by omega)]); (rw [if_neg g, if_neg (by omega)]))
              · rw [e_18, e_16, e_14, mset_nk (by decide)]; by_cases e : i = k.toNat; (subst e; rw [mset_eq, if_pos (by omega)]); (rw [mset_ne (fun q => e q.2), mset_nk (by decide), h191]; by_cases g : (i : Int) < k; (rw [if_pos g, if_pos (by omega)]); (rw [if_neg g, if_neg (by omega)]))
              · rw [e_18, e_16, e_14]; by_cases e : i = k.toNat; (subst e; rw [mset_eq, if_pos (by omega)]); (rw [mset_ne (fun q => e q.2), mset_nk (by decide), mset_nk (by decide), h192]; by_cases g : (i : Int) < k; (rw [if_pos g, if_pos (by omega)]); (rw [if_neg g, if_neg (by omega)]))
              · first
                | (rw [(iand_bit hsm).2] at q; omega)
                | (rw [(iand_bit hsm).1] at q; refine ⟨(hsame q).1, fun i hi => ?_⟩; by_cases e : i = k.toNat; (subst e; exact ⟨by omega, by omega, by omega⟩); exact (hsame q).2 i (by omega))
          · refine ok_aload_n F dX1_laySettling_51 0 rfl ?_
            refine ok_getr F dX1_laySettling_52 kF_X1_15 sh_186 rfl ?_
            refine ok_iload_n F dX1_laySettling_55 3 rfl ?_
            refine ok_iald (v := m 191 k.toNat) F dX1_laySettling_56 sh_191 (by first | decide | assumption) (by omega) (by omega) rfl ?_
            refine ok_aload_n F dX1_laySettling_57 1 rfl ?_
            refine ok_getr F dX1_laySettling_58 kF_X1_55 sh_21 rfl ?_
            refine ok_iload_n F dX1_laySettling_61 3 rfl ?_
            refine ok_iald (v := mem 24 k.toNat) F dX1_laySettling_62 sh_24 (by first | decide | assumption) (by omega) (by omega) (by rw [h24] <;> rfl) ?_
            refine ok_icmp_ne F 85 dX1_laySettling_63 (by decide) (by omega) (by omega) (fun c_19 => ?_) (fun c_19 => ?_)
            · refine ok_iconst F dX1_laySettling_85 ?_
              refine ok_iand F dX1_laySettling_86 ?_
              refine ok_istore_n (lv' := [(2, pI (iand sm 0)), (0, pR 186), (1, pR 21), (3, pI k)]) F dX1_laySettling_87 (by decide) rfl ?_
              refine ok_aload_n F dX1_laySettling_88 1 rfl ?_
              refine ok_getr F dX1_laySettling_89 kF_X1_9 sh_186 rfl ?_
              refine ok_iload_n F dX1_laySettling_92 3 rfl ?_
              refine ok_aload_n F dX1_laySettling_93 2 rfl ?_
              refine ok_getr F dX1_laySettling_94 kF_X1_48 sh_21 rfl ?_
              refine ok_iload_n F dX1_laySettling_97 3 rfl ?_
              refine ok_iald (v := mem 22 k.toNat) F dX1_laySettling_98 sh_22 (by first | decide | assumption) (by omega) (by omega) (by rw [h22] <;> rfl) ?_
              refine ok_iast F dX1_laySettling_99 sh_190 (by first | decide | assumption) (by omega) (by omega) (fun m_20 e_21 => ?_)
              refine ok_aload_n F dX1_laySettling_100 1 rfl ?_
              refine ok_getr F dX1_laySettling_101 kF_X1_15 sh_186 rfl ?_
              refine ok_iload_n F dX1_laySettling_104 3 rfl ?_
              refine ok_aload_n F dX1_laySettling_105 2 rfl ?_
              refine ok_getr F dX1_laySettling_106 kF_X1_55 sh_21 rfl ?_
              refine ok_iload_n F dX1_laySettling_109 3 rfl ?_
              refine ok_iald (v := mem 24 k.toNat) F dX1_laySettling_110 sh_24 (by first | decide | assumption) (by omega) (by omega) (by rw [e_21, mset_nk (by decide), h24] <;> rfl) ?_
              refine ok_iast F dX1_laySettling_111 sh_191 (by first | decide | assumption) (by omega) (by omega) (fun m_22 e_23 => ?_)
              refine ok_aload_n F dX1_laySettling_112 1 rfl ?_
              refine ok_getr F dX1_laySettling_113 kF_X1_18 sh_186 rfl ?_
              refine ok_iload_n F dX1_laySettling_116 3 rfl ?_
              refine ok_aload_n F dX1_laySettling_117 2 rfl ?_
              refine ok_getr F dX1_laySettling_118 kF_X1_58 sh_21 rfl ?_
              refine ok_iload_n F dX1_laySettling_121 3 rfl ?_
              refine ok_iald (v := mem 23 k.toNat) F dX1_laySettling_122 sh_23 (by first | decide | assumption) (by omega) (by omega) (by rw [e_23, mset_nk (by decide), e_21, mset_nk (by decide), h23] <;> rfl) ?_
              refine ok_iast F dX1_laySettling_123 sh_192 (by first | decide | assumption) (by omega) (by omega) (fun m_24 e_25 => ?_)
              refine ok_iinc (lv' := [(3, pI (k + 1)), (2, pI (iand sm 0)), (0, pR 186), (1, pR 21)]) F dX1_laySettling_124 3 rfl (by decide) rfl ?_
              refine ok_goto F 29 dX1_laySettling_127 (by decide) ?_
              refine ok_lvp [2, 3, 1, 0] (lv' := [(0, pR 186), (1, pR 21), (2, pI (iand sm 0)), (3, pI (k + 1))]) rfl ?_
              refine ih_29 _ ?_ (iand sm 0) (k + 1) m_24 ?_ rfl
              · omega
              · refine ⟨by omega, by omega, ?_, fun a a1 a2 a3 => by rw [e_25, e_23, e_21, mset_nka a3, mset_nka a2, mset_nka a1]; exact hF a a1 a2 a3, fun i => ?_, fun i => ?_, fun i => ?_, fun q => ?_⟩
                · first | (rw [(iand_bit hsm).1]; exact hsm) | (rw [(iand_bit hsm).2]; exact Or.inl rfl)
                · rw [e_25, e_23, e_21, mset_nk (by decide), mset_nk (by decide)]; by_cases e : i = k.toNat; (subst e; rw [mset_eq, if_pos (by omega)]); (rw [mset_ne (fun q => e q.2), h190]; by_cases g : (i : Int) < k; (rw [if_pos g, if_pos (by omega)]); (rw [if_neg g, if_neg (by omega)]))
                · rw [e_25, e_23, e_21, mset_nk (by decide)]; by_cases e : i = k.toNat; (subst e; rw [mset_eq, if_pos (by omega)]); (rw [mset_ne (fun q => e q.2), mset_nk (by decide), h191]; by_cases g : (i : Int) < k; (rw [if_pos g, if_pos (by omega)]); (rw [if_neg g, if_neg (by omega)]))
                · rw [e_25, e_23, e_21]; by_cases e : i = k.toNat; (subst e; rw [mset_eq, if_pos (by omega)]); (rw [mset_ne (fun q => e q.2), mset_nk (by decide), mset_nk (by decide), h192]; by_cases g : (i : Int) < k; (rw [if_pos g, if_pos (by omega)]); (rw [if_neg g, if_neg (by omega)]))
                · first
                  | (rw [(iand_bit hsm).2] at q; omega)
                  | (rw [(iand_bit hsm).1] at q; refine ⟨(hsame q).1, fun i hi => ?_⟩; by_cases e : i = k.toNat; (subst e; exact ⟨by omega, by omega, by omega⟩); exact (hsame q).2 i (by omega))
            · refine ok_aload_n F dX1_laySettling_66 0 rfl ?_
              refine ok_getr F dX1_laySettling_67 kF_X1_18 sh_186 rfl ?_
              refine ok_iload_n F dX1_laySettling_70 3 rfl ?_
              refine ok_iald (v := m 192 k.toNat) F dX1_laySettling_71 sh_192 (by first | decide | assumption) (by omega) (by omega) rfl ?_
              refine ok_aload_n F dX1_laySettling_72 1 rfl ?_
              refine ok_getr F dX1_laySettling_73 kF_X1_58 sh_21 rfl ?_
              refine ok_iload_n F dX1_laySettling_76 3 rfl ?_
              refine ok_iald (v := mem 23 k.toNat) F dX1_laySettling_77 sh_23 (by first | decide | assumption) (by omega) (by omega) (by rw [h23] <;> rfl) ?_
              refine ok_icmp_ne F 85 dX1_laySettling_78 (by decide) (by omega) (by omega) (fun c_26 => ?_) (fun c_26 => ?_)
              · refine ok_iconst F dX1_laySettling_85 ?_
                refine ok_iand F dX1_laySettling_86 ?_
                refine ok_istore_n (lv' := [(2, pI (iand sm 0)), (0, pR 186), (1, pR 21), (3, pI k)]) F dX1_laySettling_87 (by decide) rfl ?_
                refine ok_aload_n F dX1_laySettling_88 1 rfl ?_
                refine ok_getr F dX1_laySettling_89 kF_X1_9 sh_186 rfl ?_
                refine ok_iload_n F dX1_laySettling_92 3 rfl ?_
                refine ok_aload_n F dX1_laySettling_93 2 rfl ?_
                refine ok_getr F dX1_laySettling_94 kF_X1_48 sh_21 rfl ?_
                refine ok_iload_n F dX1_laySettling_97 3 rfl ?_
                refine ok_iald (v := mem 22 k.toNat) F dX1_laySettling_98 sh_22 (by first | decide | assumption) (by omega) (by omega) (by rw [h22] <;> rfl) ?_
                refine ok_iast F dX1_laySettling_99 sh_190 (by first | decide | assumption) (by omega) (by omega) (fun m_27 e_28 => ?_)
                refine ok_aload_n F dX1_laySettling_100 1 rfl ?_
                refine ok_getr F dX1_laySettling_101 kF_X1_15 sh_186 rfl ?_
                refine ok_iload_n F dX1_laySettling_104 3 rfl ?_
                refine ok_aload_n F dX1_laySettling_105 2 rfl ?_
                refine ok_getr F dX1_laySettling_106 kF_X1_55 sh_21 rfl ?_
                refine ok_iload_n F dX1_laySettling_109 3 rfl ?_
                refine ok_iald (v := mem 24 k.toNat) F dX1_laySettling_110 sh_24 (by first | decide | assumption) (by omega) (by omega) (by rw [e_28, mset_nk (by decide), h24] <;> rfl) ?_
                refine ok_iast F dX1_laySettling_111 sh_191 (by first | decide | assumption) (by omega) (by omega) (fun m_29 e_30 => ?_)
                refine ok_aload_n F dX1_laySettling_112 1 rfl ?_
                refine ok_getr F dX1_laySettling_113 kF_X1_18 sh_186 rfl ?_
                refine ok_iload_n F dX1_laySettling_116 3 rfl ?_
                refine ok_aload_n F dX1_laySettling_117 2 rfl ?_
                refine ok_getr F dX1_laySettling_118 kF_X1_58 sh_21 rfl ?_
                refine ok_iload_n F dX1_laySettling_121 3 rfl ?_
                refine ok_iald (v := mem 23 k.toNat) F dX1_laySettling_122 sh_23 (by first | decide | assumption) (by omega) (by omega) (by rw [e_30, mset_nk (by decide), e_28, mset_nk (by decide), h23] <;> rfl) ?_
                refine ok_iast F dX1_laySettling_123 sh_192 (by first | decide | assumption) (by omega) (by omega) (fun m_31 e_32 => ?_)
                refine ok_iinc (lv' := [(3, pI (k + 1)), (2, pI (iand sm 0)), (0, pR 186), (1, pR 21)]) F dX1_laySettling_124 3 rfl (by decide) rfl ?_
                refine ok_goto F 29 dX1_laySettling_127 (by decide) ?_
                refine ok_lvp [2, 3, 1, 0] (lv' := [(0, pR 186), (1, pR 21), (2, pI (iand sm 0)), (3, pI (k + 1))]) rfl ?_
                refine ih_29 _ ?_ (iand sm 0) (k + 1) m_31 ?_ rfl
                · omega
                · refine ⟨by omega, by omega, ?_, fun a a1 a2 a3 => by rw [e_32, e_30, e_28, mset_nka a3, mset_nka a2, mset_nka a1]; exact hF a a1 a2 a3, fun i => ?_, fun i => ?_, fun i => ?_, fun q => ?_⟩
                  · first | (rw [(iand_bit hsm).1]; exact hsm) | (rw [(iand_bit hsm).2]; exact Or.inl rfl)
                  · rw [e_32, e_30, e_28, mset_nk (by decide), mset_nk (by decide)]; by_cases e : i = k.toNat; (subst e; rw [mset_eq, if_pos (by omega)]); (rw [mset_ne (fun q => e q.2), h190]; by_cases g : (i : Int) < k; (rw [if_pos g, if_pos (by omega)]); (rw [if_neg g, if_neg (by omega)]))
                  · rw [e_32, e_30, e_28, mset_nk (by decide)]; by_cases e : i = k.toNat; (subst e; rw [mset_eq, if_pos (by omega)]); (rw [mset_ne (fun q => e q.2), mset_nk (by decide), h191]; by_cases g : (i : Int) < k; (rw [if_pos g, if_pos (by omega)]); (rw [if_neg g, if_neg (by omega)]))
                  · rw [e_32, e_30, e_28]; by_cases e : i = k.toNat; (subst e; rw [mset_eq, if_pos (by omega)]); (rw [mset_ne (fun q => e q.2), mset_nk (by decide), mset_nk (by decide), h192]; by_cases g : (i : Int) < k; (rw [if_pos g, if_pos (by omega)]); (rw [if_neg g, if_neg (by omega)]))
                  · first
                    | (rw [(iand_bit hsm).2] at q; omega)
                    | (rw [(iand_bit hsm).1] at q; refine ⟨(hsame q).1, fun i hi => ?_⟩; by_cases e : i = k.toNat; (subst e; exact ⟨by omega, by omega, by omega⟩); exact (hsame q).2 i (by omega))
              · refine ok_iconst F dX1_laySettling_81 ?_
                refine ok_goto F 86 dX1_laySettling_82 (by decide) ?_
                refine ok_iand F dX1_laySettling_86 ?_
                refine ok_istore_n (lv' := [(2, pI (iand sm 1)), (0, pR 186), (1, pR 21), (3, pI k)]) F dX1_laySettling_87 (by decide) rfl ?_
                refine ok_aload_n F dX1_laySettling_88 1 rfl ?_
                refine ok_getr F dX1_laySettling_89 kF_X1_9 sh_186 rfl ?_
                refine ok_iload_n F dX1_laySettling_92 3 rfl ?_
                refine ok_aload_n F dX1_laySettling_93 2 rfl ?_
                refine ok_getr F dX1_laySettling_94 kF_X1_48 sh_21 rfl ?_
                refine ok_iload_n F dX1_laySettling_97 3 rfl ?_
                refine ok_iald (v := mem 22 k.toNat) F dX1_laySettling_98 sh_22 (by first | decide | assumption) (by omega) (by omega) (by rw [h22] <;> rfl) ?_
                refine ok_iast F dX1_laySettling_99 sh_190 (by first | decide | assumption) (by omega) (by omega) (fun m_33 e_34 => ?_)
                refine ok_aload_n F dX1_laySettling_100 1 rfl ?_
                refine ok_getr F dX1_laySettling_101 kF_X1_15 sh_186 rfl ?_
                refine ok_iload_n F dX1_laySettling_104 3 rfl ?_
                refine ok_aload_n F dX1_laySettling_105 2 rfl ?_
                refine ok_getr F dX1_laySettling_106 kF_X1_55 sh_21 rfl ?_
                refine ok_iload_n F dX1_laySettling_109 3 rfl ?_
                refine ok_iald (v := mem 24 k.toNat) F dX1_laySettling_110 sh_24 (by first | decide | assumption) (by omega) (by omega) (by rw [e_34, mset_nk (by decide), h24] <;> rfl) ?_
                refine ok_iast F dX1_laySettling_111 sh_191 (by first | decide | assumption) (by omega) (by omega) (fun m_35 e_36 => ?_)
                refine ok_aload_n F dX1_laySettling_112 1 rfl ?_
                refine ok_getr F dX1_laySettling_113 kF_X1_18 sh_186 rfl ?_
                refine ok_iload_n F dX1_laySettling_116 3 rfl ?_
                refine ok_aload_n F dX1_laySettling_117 2 rfl ?_
                refine ok_getr F dX1_laySettling_118 kF_X1_58 sh_21 rfl ?_
                refine ok_iload_n F dX1_laySettling_121 3 rfl ?_
                refine ok_iald (v := mem 23 k.toNat) F dX1_laySettling_122 sh_23 (by first | decide | assumption) (by omega) (by omega) (by rw [e_36, mset_nk (by decide), e_34, mset_nk (by decide), h23] <;> rfl) ?_
                refine ok_iast F dX1_laySettling_123 sh_192 (by first | decide | assumption) (by omega) (by omega) (fun m_37 e_38 => ?_)
                refine ok_iinc (lv' := [(3, pI (k + 1)), (2, pI (iand sm 1)), (0, pR 186), (1, pR 21)]) F dX1_laySettling_124 3 rfl (by decide) rfl ?_
                refine ok_goto F 29 dX1_laySettling_127 (by decide) ?_
                refine ok_lvp [2, 3, 1, 0] (lv' := [(0, pR 186), (1, pR 21), (2, pI (iand sm 1)), (3, pI (k + 1))]) rfl ?_
                refine ih_29 _ ?_ (iand sm 1) (k + 1) m_37 ?_ rfl
                · omega
                · refine ⟨by omega, by omega, ?_, fun a a1 a2 a3 => by rw [e_38, e_36, e_34, mset_nka a3, mset_nka a2, mset_nka a1]; exact hF a a1 a2 a3, fun i => ?_, fun i => ?_, fun i => ?_, fun q => ?_⟩
                  · first | (rw [(iand_bit hsm).1]; exact hsm) | (rw [(iand_bit hsm).2]; exact Or.inl rfl)
                  · rw [e_38, e_36, e_34, mset_nk (by decide), mset_nk (by decide)]; by_cases e : i = k.toNat; (subst e; rw [mset_eq, if_pos (by omega)]); (rw [mset_ne (fun q => e q.2), h190]; by_cases g : (i : Int) < k; (rw [if_pos g, if_pos (by omega)]); (rw [if_neg g, if_neg (by omega)]))
                  · rw [e_38, e_36, e_34, mset_nk (by decide)]; by_cases e : i = k.toNat; (subst e; rw [mset_eq, if_pos (by omega)]); (rw [mset_ne (fun q => e q.2), mset_nk (by decide), h191]; by_cases g : (i : Int) < k; (rw [if_pos g, if_pos (by omega)]); (rw [if_neg g, if_neg (by omega)]))
                  · rw [e_38, e_36, e_34]; by_cases e : i = k.toNat; (subst e; rw [mset_eq, if_pos (by omega)]); (rw [mset_ne (fun q => e q.2), mset_nk (by decide), mset_nk (by decide), h192]; by_cases g : (i : Int) < k; (rw [if_pos g, if_pos (by omega)]); (rw [if_neg g, if_neg (by omega)]))
                  · first
                    | (rw [(iand_bit hsm).2] at q; omega)
                    | (rw [(iand_bit hsm).1] at q; refine ⟨(hsame q).1, fun i hi => ?_⟩; by_cases e : i = k.toNat; (subst e; exact ⟨by omega, by omega, by omega⟩); exact (hsame q).2 i (by omega))
    refine ok_lvp [1, 2, 3, 0] (lv' := [(0, pR 186), (1, pR 21), (2, pI s0), (3, pI 0)]) rfl ?_
    refine hL_29 _ s0 0 mem ?_ rfl
    exact ⟨by omega, by omega, hs01, fun _ _ _ _ => rfl, fun i => (if_neg (by omega)).symm, fun i => (if_neg (by omega)).symm, fun i => (if_neg (by omega)).symm, fun q => ⟨hs02 q, fun i hi => by omega⟩⟩
  refine ok_icmp_ne F 25 dX1_laySettling_7 (by decide) (by omega) (by omega) (fun c_39 => ?_) (fun c_39 => ?_)
  · refine ok_iconst F dX1_laySettling_25 ?_
    refine ok_istore_n (lv' := [(2, pI 0), (0, pR 186), (1, pR 21)]) F dX1_laySettling_26 (by decide) rfl ?_
    refine ok_lvp [1, 2, 0] (lv' := [(0, pR 186), (1, pR 21), (2, pI 0)]) rfl ?_
    refine hJ_27 0 ?_
    first | exact ⟨Or.inr rfl, fun _ => ⟨by omega, by omega⟩⟩ | exact ⟨Or.inl rfl, fun q => by omega⟩
  · refine ok_aload_n F dX1_laySettling_10 0 rfl ?_
    refine ok_getf (v := mem 186 3) F dX1_laySettling_11 kF_X1_45 sh_186 rfl rfl ?_
    refine ok_aload_n F dX1_laySettling_14 1 rfl ?_
    refine ok_getf (v := mem 21 0) F dX1_laySettling_15 kF_X1_54 sh_21 rfl rfl ?_
    refine ok_icmp_ne F 25 dX1_laySettling_18 (by decide) (by omega) (by omega) (fun c_40 => ?_) (fun c_40 => ?_)
    · refine ok_iconst F dX1_laySettling_25 ?_
      refine ok_istore_n (lv' := [(2, pI 0), (0, pR 186), (1, pR 21)]) F dX1_laySettling_26 (by decide) rfl ?_
      refine ok_lvp [1, 2, 0] (lv' := [(0, pR 186), (1, pR 21), (2, pI 0)]) rfl ?_
      refine hJ_27 0 ?_
      first | exact ⟨Or.inr rfl, fun _ => ⟨by omega, by omega⟩⟩ | exact ⟨Or.inl rfl, fun q => by omega⟩
    · refine ok_iconst F dX1_laySettling_21 ?_
      refine ok_goto F 26 dX1_laySettling_22 (by decide) ?_
      refine ok_istore_n (lv' := [(2, pI 1), (0, pR 186), (1, pR 21)]) F dX1_laySettling_26 (by decide) rfl ?_
      refine ok_lvp [1, 2, 0] (lv' := [(0, pR 186), (1, pR 21), (2, pI 1)]) rfl ?_
      refine hJ_27 1 ?_
      first | exact ⟨Or.inr rfl, fun _ => ⟨by omega, by omega⟩⟩ | exact ⟨Or.inl rfl, fun q => by omega⟩
