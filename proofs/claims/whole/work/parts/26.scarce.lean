/-! the reference: the kind that is scarce -/
theorem gapsF_congr {v c c' : Nat → Nat} {n : Nat} (h : ∀ i, i < n → c i = c' i) : gapsF v c n = gapsF v c' n := by
  unfold gapsF
  exact sumN_congr (fun a _ => by rw [fewT_congr a h])
theorem gapsF_bd (v c : Nat → Nat) (n : Nat) : 0 ≤ gapsF v c n ∧ gapsF v c n ≤ 2501 := by
  have h := sumN_bd (f := fun a => if fewT v c n a < 1000000 then 0 else 1) (B := 1) (n := 2501) (fun k _ => by
    show 0 ≤ (if _ then (0 : Int) else 1) ∧ (if _ then (0 : Int) else 1) ≤ 1
    split <;> decide)
  unfold gapsF
  omega
/-- amounts without change, had the till one piece more of a kind -/
def moreG (v c : Nat → Nat) (n k : Nat) : Int := gapsF v (fun i => if i = k then c i + 1 else c i) n
/-- the fewest of these, and for which of the first kinds -/
def scarceF (v c : Nat → Nat) (n : Nat) : Nat → Int × Int
  | 0 => (gapsF v c n, -2)
  | k + 1 => if c k ≠ 99 ∧ moreG v c n k < (scarceF v c n k).1 then (moreG v c n k, (k : Int)) else scarceF v c n k
theorem scarceF_s (v c : Nat → Nat) (n : Nat) {k : Int} (h : 0 ≤ k) : scarceF v c n (k + 1).toNat = if c k.toNat ≠ 99 ∧ moreG v c n k.toNat < (scarceF v c n k.toNat).1 then (moreG v c n k.toNat, k) else scarceF v c n k.toNat := by
  rw [show (k + 1).toNat = k.toNat + 1 by omega]
  show (if c k.toNat ≠ 99 ∧ moreG v c n k.toNat < (scarceF v c n k.toNat).1 then (moreG v c n k.toNat, ((k.toNat : Nat) : Int)) else scarceF v c n k.toNat) = _
  rw [show ((k.toNat : Nat) : Int) = k by omega]
theorem dX8_scarce_0 : decode cX8_scarce 0 = .ok (.iload_n 1, 1) := by decide +kernel
theorem dX8_scarce_1 : decode cX8_scarce 1 = .ok (.i2l, 1) := by decide +kernel
theorem dX8_scarce_2 : decode cX8_scarce 2 = .ok (.lconst 0, 1) := by decide +kernel
theorem dX8_scarce_3 : decode cX8_scarce 3 = .ok (.lconst 1, 1) := by decide +kernel
theorem dX8_scarce_4 : decode cX8_scarce 4 = .ok (.invokestatic 100, 3) := by decide +kernel
theorem dX8_scarce_7 : decode cX8_scarce 7 = .ok (.ifCond .ne 5, 3) := by decide +kernel
theorem dX8_scarce_10 : decode cX8_scarce 10 = .ok (.iconst (-1), 1) := by decide +kernel
theorem dX8_scarce_11 : decode cX8_scarce 11 = .ok (.ireturn, 1) := by decide +kernel
theorem dX8_scarce_12 : decode cX8_scarce 12 = .ok (.aload_n 0, 1) := by decide +kernel
theorem dX8_scarce_13 : decode cX8_scarce 13 = .ok (.aload_n 0, 1) := by decide +kernel
theorem dX8_scarce_14 : decode cX8_scarce 14 = .ok (.getfield 9, 3) := by decide +kernel
theorem dX8_scarce_17 : decode cX8_scarce 17 = .ok (.bipush 11, 2) := by decide +kernel
theorem dX8_scarce_19 : decode cX8_scarce 19 = .ok (.invokevirtual 312, 3) := by decide +kernel
theorem dX8_scarce_22 : decode cX8_scarce 22 = .ok (.istore_n 2, 1) := by decide +kernel
theorem dX8_scarce_23 : decode cX8_scarce 23 = .ok (.bipush (-2), 2) := by decide +kernel
theorem dX8_scarce_25 : decode cX8_scarce 25 = .ok (.istore_n 3, 1) := by decide +kernel
theorem dX8_scarce_26 : decode cX8_scarce 26 = .ok (.iconst 0, 1) := by decide +kernel
theorem dX8_scarce_27 : decode cX8_scarce 27 = .ok (.istore 4, 2) := by decide +kernel
theorem dX8_scarce_29 : decode cX8_scarce 29 = .ok (.iload 4, 2) := by decide +kernel
theorem dX8_scarce_31 : decode cX8_scarce 31 = .ok (.aload_n 0, 1) := by decide +kernel
theorem dX8_scarce_32 : decode cX8_scarce 32 = .ok (.getfield 9, 3) := by decide +kernel
theorem dX8_scarce_35 : decode cX8_scarce 35 = .ok (.iconst 0, 1) := by decide +kernel
theorem dX8_scarce_36 : decode cX8_scarce 36 = .ok (.iaload, 1) := by decide +kernel
theorem dX8_scarce_37 : decode cX8_scarce 37 = .ok (.if_icmp .ge 65, 3) := by decide +kernel
theorem dX8_scarce_40 : decode cX8_scarce 40 = .ok (.aload_n 0, 1) := by decide +kernel
theorem dX8_scarce_41 : decode cX8_scarce 41 = .ok (.getfield 9, 3) := by decide +kernel
theorem dX8_scarce_44 : decode cX8_scarce 44 = .ok (.bipush 11, 2) := by decide +kernel
theorem dX8_scarce_46 : decode cX8_scarce 46 = .ok (.iload 4, 2) := by decide +kernel
theorem dX8_scarce_48 : decode cX8_scarce 48 = .ok (.iadd, 1) := by decide +kernel
theorem dX8_scarce_49 : decode cX8_scarce 49 = .ok (.iaload, 1) := by decide +kernel
theorem dX8_scarce_50 : decode cX8_scarce 50 = .ok (.bipush 99, 2) := by decide +kernel
theorem dX8_scarce_52 : decode cX8_scarce 52 = .ok (.if_icmp .ne 6, 3) := by decide +kernel
theorem dX8_scarce_55 : decode cX8_scarce 55 = .ok (.goto 41, 3) := by decide +kernel
theorem dX8_scarce_58 : decode cX8_scarce 58 = .ok (.aload_n 0, 1) := by decide +kernel
theorem dX8_scarce_59 : decode cX8_scarce 59 = .ok (.invokevirtual 279, 3) := by decide +kernel
theorem dX8_scarce_62 : decode cX8_scarce 62 = .ok (.aload_n 0, 1) := by decide +kernel
theorem dX8_scarce_63 : decode cX8_scarce 63 = .ok (.getfield 52, 3) := by decide +kernel
theorem dX8_scarce_66 : decode cX8_scarce 66 = .ok (.iload 4, 2) := by decide +kernel
theorem dX8_scarce_68 : decode cX8_scarce 68 = .ok (.dup2, 1) := by decide +kernel
theorem dX8_scarce_69 : decode cX8_scarce 69 = .ok (.iaload, 1) := by decide +kernel
theorem dX8_scarce_70 : decode cX8_scarce 70 = .ok (.iconst 1, 1) := by decide +kernel
theorem dX8_scarce_71 : decode cX8_scarce 71 = .ok (.iadd, 1) := by decide +kernel
theorem dX8_scarce_72 : decode cX8_scarce 72 = .ok (.iastore, 1) := by decide +kernel
theorem dX8_scarce_73 : decode cX8_scarce 73 = .ok (.aload_n 0, 1) := by decide +kernel
theorem dX8_scarce_74 : decode cX8_scarce 74 = .ok (.aload_n 0, 1) := by decide +kernel
theorem dX8_scarce_75 : decode cX8_scarce 75 = .ok (.getfield 52, 3) := by decide +kernel
theorem dX8_scarce_78 : decode cX8_scarce 78 = .ok (.iconst 0, 1) := by decide +kernel
theorem dX8_scarce_79 : decode cX8_scarce 79 = .ok (.invokevirtual 312, 3) := by decide +kernel
theorem dX8_scarce_82 : decode cX8_scarce 82 = .ok (.istore 5, 2) := by decide +kernel
theorem dX8_scarce_84 : decode cX8_scarce 84 = .ok (.iload 5, 2) := by decide +kernel
theorem dX8_scarce_86 : decode cX8_scarce 86 = .ok (.iload_n 2, 1) := by decide +kernel
theorem dX8_scarce_87 : decode cX8_scarce 87 = .ok (.if_icmp .ge 9, 3) := by decide +kernel
theorem dX8_scarce_90 : decode cX8_scarce 90 = .ok (.iload 5, 2) := by decide +kernel
theorem dX8_scarce_92 : decode cX8_scarce 92 = .ok (.istore_n 2, 1) := by decide +kernel
theorem dX8_scarce_93 : decode cX8_scarce 93 = .ok (.iload 4, 2) := by decide +kernel
theorem dX8_scarce_95 : decode cX8_scarce 95 = .ok (.istore_n 3, 1) := by decide +kernel
theorem dX8_scarce_96 : decode cX8_scarce 96 = .ok (.iinc 4 1, 3) := by decide +kernel
theorem dX8_scarce_99 : decode cX8_scarce 99 = .ok (.goto (-70), 3) := by decide +kernel
theorem dX8_scarce_102 : decode cX8_scarce 102 = .ok (.iload_n 3, 1) := by decide +kernel
theorem dX8_scarce_103 : decode cX8_scarce 103 = .ok (.bipush (-2), 2) := by decide +kernel
theorem dX8_scarce_105 : decode cX8_scarce 105 = .ok (.if_icmp .ne 8, 3) := by decide +kernel
theorem dX8_scarce_108 : decode cX8_scarce 108 = .ok (.bipush (-2), 2) := by decide +kernel
theorem dX8_scarce_110 : decode cX8_scarce 110 = .ok (.goto 12, 3) := by decide +kernel
theorem dX8_scarce_113 : decode cX8_scarce 113 = .ok (.iload_n 1, 1) := by decide +kernel
theorem dX8_scarce_114 : decode cX8_scarce 114 = .ok (.ifCond .ne 7, 3) := by decide +kernel
theorem dX8_scarce_117 : decode cX8_scarce 117 = .ok (.iload_n 3, 1) := by decide +kernel
theorem dX8_scarce_118 : decode cX8_scarce 118 = .ok (.goto 4, 3) := by decide +kernel
theorem dX8_scarce_121 : decode cX8_scarce 121 = .ok (.iload_n 2, 1) := by decide +kernel
theorem dX8_scarce_122 : decode cX8_scarce 122 = .ok (.ireturn, 1) := by decide +kernel
set_option maxHeartbeats 4000000 in
set_option maxRecDepth 100000 in
theorem m_X8_scarce (l : Launch) (w : Int) (mem : Mem) (hw : i32 w) (hN : 0 ≤ mem 1 0 ∧ mem 1 0 ≤ 8) (hVl : ∀ i : Nat, (i : Int) < mem 1 0 → 1 ≤ mem 1 (3 + i) ∧ mem 1 (3 + i) ≤ 500) (hTl : ∀ k : Nat, k < 8 → 0 ≤ mem 1 (11 + k) ∧ mem 1 (11 + k) ≤ 99) : Ret shp l yX8_scarce cX8_scarce 6 (some .int) 4 [pR 0, pI w] mem (fun rv mv => ∃ z, rv = some (pI z) ∧ Keep mem mv ∧ z = if 0 ≤ w ∧ w ≤ 1 then (if (scarceF (fun i => (mem 1 (3 + i)).toNat) (fun i => (mem 1 (11 + i)).toNat) (mem 1 0).toNat (mem 1 0).toNat).2 = -2 then -2 else if w = 0 then (scarceF (fun i => (mem 1 (3 + i)).toNat) (fun i => (mem 1 (11 + i)).toNat) (mem 1 0).toNat (mem 1 0).toNat).2 else (scarceF (fun i => (mem 1 (3 + i)).toNat) (fun i => (mem 1 (11 + i)).toNat) (mem 1 0).toNat (mem 1 0).toNat).1) else -1) := by
  refine ret_of (by decide +kernel) (Nat.le_of_ble_eq_true rfl) (fun X hX F G => ?_)
  show Ok shp X 6 0 [(0, pR 0), (1, pI w)] [] mem
  refine ok_iload_n F dX8_scarce_0 1 rfl ?_
  refine ok_i2l F dX8_scarce_1 (by omega) ?_
  refine ok_lconst (z := 0) F dX8_scarce_2 rfl ?_
  refine ok_lconst (z := 1) F dX8_scarce_3 rfl ?_
  refine ok_calls F [pL w, pL 0, pL 1] dX8_scarce_4 kM_X8_in kS_X8_in kL_X8_100 rfl (by decide) (Nat.le_of_ble_eq_true rfl) rfl (m_X8_in _ w 0 1 mem (by omega) (by omega) (by omega)) ?_
  rintro _ _ ⟨rfl, rfl⟩
  refine ok_if_ne F 12 dX8_scarce_7 (by decide) (by omega) (fun c_1 => ?_) (fun c_1 => ?_)
  · refine ok_aload_n F dX8_scarce_12 0 rfl ?_
    refine ok_aload_n F dX8_scarce_13 0 rfl ?_
    refine ok_getr F dX8_scarce_14 kF_X8_9 sh_0 rfl ?_
    refine ok_bipush F dX8_scarce_17 rfl ?_
    refine ok_callv F [pR 1, pI 11] dX8_scarce_19 kM_X8_gaps kI_X8_gaps kV_X8_gaps kL_X8_312 (ci := 8) rfl sh_0 rfl (by decide) (Nat.le_of_ble_eq_true rfl) rfl (m_X8_gaps _ 1 11 mem (by omega) (hVl) (459) (sh_1) (by decide) (by decide) (by decide) (by omega) (fun i hi => ⟨(hTl i (by omega)).1, Int.le_trans (hTl i (by omega)).2 (by decide)⟩)) ?_
    rintro _ m_3 ⟨z_2, rfl, r_4⟩
    obtain ⟨hfr, hz0, hT0⟩ := id r_4
    have hz : z_2 = gapsF (fun i => (mem 1 (3 + i)).toNat) (fun i => (mem 1 (11 + i)).toNat) (mem 1 0).toNat := hz0
    refine ok_istore_n (lv' := [(2, pI z_2), (0, pR 0), (1, pI w)]) F dX8_scarce_22 (by decide) rfl ?_
    refine ok_bipush F dX8_scarce_23 rfl ?_
    refine ok_istore_n (lv' := [(3, pI (-2)), (2, pI z_2), (0, pR 0), (1, pI w)]) F dX8_scarce_25 (by decide) rfl ?_
    refine ok_iconst F dX8_scarce_26 ?_
    refine ok_istore (lv' := [(4, pI 0), (3, pI (-2)), (2, pI z_2), (0, pR 0), (1, pI w)]) F dX8_scarce_27 (by decide) rfl ?_
    have hL_29 : ∀ (n_29 : Nat) (b : Int) (c : Int) (k : Int) (m : Mem), (0 ≤ k ∧ k ≤ mem 1 0 ∧ (∀ a, a ≠ 8 → a ≠ 9 → a ≠ 14 → m a = mem a) ∧ b = (scarceF (fun i => (mem 1 (3 + i)).toNat) (fun i => (mem 1 (11 + i)).toNat) (mem 1 0).toNat k.toNat).1 ∧ c = (scarceF (fun i => (mem 1 (3 + i)).toNat) (fun i => (mem 1 (11 + i)).toNat) (mem 1 0).toNat k.toNat).2 ∧ (0 ≤ b ∧ b ≤ 2501) ∧ -2 ≤ c ∧ c ≤ 8) → (mem 1 0 - k).toNat = n_29 → Ok shp X 6 29 [(0, pR 0), (1, pI w), (2, pI b), (3, pI c), (4, pI k)] [] m := by
      intro n_29
      induction n_29 using Nat.strongRecOn with
      | _ n_29 ih_29 =>
        intro b c k m hI_29 hn_29
        obtain ⟨hk0, hk1, hF, hb, hc, hbb, hc1, hc2⟩ := hI_29
        have h1 := hF 1 (by decide) (by decide) (by decide)
        refine ok_iload F dX8_scarce_29 4 rfl ?_
        refine ok_aload_n F dX8_scarce_31 0 rfl ?_
        refine ok_getr F dX8_scarce_32 kF_X8_9 sh_0 rfl ?_
        refine ok_iconst F dX8_scarce_35 ?_
        refine ok_iald (v := mem 1 0) F dX8_scarce_36 sh_1 (by first | decide | assumption) (by omega) (by omega) (by rw [h1] <;> rfl) ?_
        refine ok_icmp_ge F 102 dX8_scarce_37 (by decide) (by omega) (by omega) (fun c_5 => ?_) (fun c_5 => ?_)
        · refine ok_iload_n F dX8_scarce_102 3 rfl ?_
          refine ok_bipush F dX8_scarce_103 rfl ?_
          refine ok_icmp_ne F 113 dX8_scarce_105 (by decide) (by omega) (by omega) (fun c_6 => ?_) (fun c_6 => ?_)
          · refine ok_iload_n F dX8_scarce_113 1 rfl ?_
            refine ok_if_ne F 121 dX8_scarce_114 (by decide) (by omega) (fun c_7 => ?_) (fun c_7 => ?_)
            · refine ok_iload_n F dX8_scarce_121 2 rfl ?_
              refine ok_iret F G dX8_scarce_122 ?_
              have ek : mem 1 0 = k := by omega
              refine ⟨_, rfl, ⟨h1, hF 3 (by decide) (by decide) (by decide), hF 4 (by decide) (by decide) (by decide), hF 5 (by decide) (by decide) (by decide), hF 6 (by decide) (by decide) (by decide), by rw [hF 0 (by decide) (by decide) (by decide)], by rw [hF 0 (by decide) (by decide) (by decide)], fun q hq => hF q (by omega) (by omega) (by omega), by rw [hF 0 (by decide) (by decide) (by decide)]⟩, ?_⟩
              rw [if_pos (by omega)]
              have e0 : (mem 1 0).toNat = k.toNat := by omega
              rw [← ek] at hb hc
              first
                | (rw [if_pos (by omega)]; done)
                | (rw [if_neg (by omega), if_pos (by omega)]; exact hc)
                | (rw [if_neg (by omega), if_neg (by omega)]; exact hb)
            · refine ok_iload_n F dX8_scarce_117 3 rfl ?_
              refine ok_goto F 122 dX8_scarce_118 (by decide) ?_
              refine ok_iret F G dX8_scarce_122 ?_
              have ek : mem 1 0 = k := by omega
              refine ⟨_, rfl, ⟨h1, hF 3 (by decide) (by decide) (by decide), hF 4 (by decide) (by decide) (by decide), hF 5 (by decide) (by decide) (by decide), hF 6 (by decide) (by decide) (by decide), by rw [hF 0 (by decide) (by decide) (by decide)], by rw [hF 0 (by decide) (by decide) (by decide)], fun q hq => hF q (by omega) (by omega) (by omega), by rw [hF 0 (by decide) (by decide) (by decide)]⟩, ?_⟩
              rw [if_pos (by omega)]
              have e0 : (mem 1 0).toNat = k.toNat := by omega
              rw [← ek] at hb hc
              first
                | (rw [if_pos (by omega)]; done)
                | (rw [if_neg (by omega), if_pos (by omega)]; exact hc)
                | (rw [if_neg (by omega), if_neg (by omega)]; exact hb)
          · refine ok_bipush F dX8_scarce_108 rfl ?_
            refine ok_goto F 122 dX8_scarce_110 (by decide) ?_
            refine ok_iret F G dX8_scarce_122 ?_
            have ek : mem 1 0 = k := by omega
            refine ⟨_, rfl, ⟨h1, hF 3 (by decide) (by decide) (by decide), hF 4 (by decide) (by decide) (by decide), hF 5 (by decide) (by decide) (by decide), hF 6 (by decide) (by decide) (by decide), by rw [hF 0 (by decide) (by decide) (by decide)], by rw [hF 0 (by decide) (by decide) (by decide)], fun q hq => hF q (by omega) (by omega) (by omega), by rw [hF 0 (by decide) (by decide) (by decide)]⟩, ?_⟩
            rw [if_pos (by omega)]
            have e0 : (mem 1 0).toNat = k.toNat := by omega
            rw [← ek] at hb hc
            first
              | (rw [if_pos (by omega)]; done)
              | (rw [if_neg (by omega), if_pos (by omega)]; exact hc)
              | (rw [if_neg (by omega), if_neg (by omega)]; exact hb)
        · have ee : mem 1 (11 + k.toNat) = mem 1 (11 + k).toNat := by rw [show 11 + k.toNat = (11 + k).toNat by omega]
          have q1 := hTl k.toNat (by omega)
          rw [show 11 + k.toNat = (11 + k).toNat by omega] at q1
          have ect : (fun i => (mem 1 (11 + i)).toNat) k.toNat = (mem 1 (11 + k).toNat).toNat := by show (mem 1 (11 + k.toNat)).toNat = _; rw [show 11 + k.toNat = (11 + k).toNat by omega]
          refine ok_aload_n F dX8_scarce_40 0 rfl ?_
          refine ok_getr F dX8_scarce_41 kF_X8_9 sh_0 rfl ?_
          refine ok_bipush F dX8_scarce_44 rfl ?_
          refine ok_iload F dX8_scarce_46 4 rfl ?_
          refine ok_iadd F dX8_scarce_48 ?_
          refine ok_iald (v := mem 1 ((11 + k).toNat)) F dX8_scarce_49 sh_1 (by first | decide | assumption) (by omega) (by omega) (by rw [h1] <;> rfl) ?_
          refine ok_bipush F dX8_scarce_50 rfl ?_
          refine ok_icmp_ne F 58 dX8_scarce_52 (by decide) (by omega) (by omega) (fun c_8 => ?_) (fun c_8 => ?_)
          · refine ok_aload_n F dX8_scarce_58 0 rfl ?_
            refine ok_callv F [] dX8_scarce_59 kM_X8_laysWork kI_X8_laysWork kV_X8_laysWork kL_X8_279 (ci := 8) rfl sh_0 rfl (by decide) (Nat.le_of_ble_eq_true rfl) rfl (m_X8_laysWork _ m) ?_
            rintro _ m_9 ⟨rfl, e_10⟩
            have em : m_9 = cpyN m 1 11 14 0 8 := by assumption
            have eg : ∀ a, a ≠ 14 → m_9 a = m a := fun a ha => by rw [em]; funext b; exact cpyN_ne ha
            have e14 : ∀ i : Nat, i < 8 → m_9 14 i = mem 1 (11 + i) := fun i hi => by rw [em]; unfold cpyN; rw [if_pos (by omega), h1, Nat.sub_zero]
            obtain ⟨mw, hmw⟩ : ∃ x, x = m_9 := ⟨_, rfl⟩
            have e14k := e14 k.toNat (by omega)
            rw [show 11 + k.toNat = (11 + k).toNat by omega] at e14k
            refine ok_aload_n F dX8_scarce_62 0 rfl ?_
            refine ok_getr F dX8_scarce_63 kF_X8_52 sh_0 rfl ?_
            refine ok_iload F dX8_scarce_66 4 rfl ?_
            refine ok_dup2 F dX8_scarce_68 rfl rfl ?_
            refine ok_iald (v := m_9 14 k.toNat) F dX8_scarce_69 sh_14 (by first | decide | assumption) (by omega) (by omega) rfl ?_
            refine ok_iconst F dX8_scarce_70 ?_
            refine ok_iadd F dX8_scarce_71 ?_
            refine ok_iast F dX8_scarce_72 sh_14 (by first | decide | assumption) (by omega) (by omega) (fun m_11 e_12 => ?_)
            have gw : ∀ a, a ≠ 14 → m_11 a = m a := fun a ha => by rw [e_12, ← eg a ha]; funext b; exact mset_nk ha
            have gw1 : m_11 1 = mem 1 := by rw [gw 1 (by decide), h1]
            have g14 : ∀ i : Nat, i < 8 → m_11 14 i = if i = k.toNat then mem 1 (11 + i) + 1 else mem 1 (11 + i) := fun i hi => by
              rw [e_12]
              by_cases e : i = k.toNat
              · subst e; rw [mset_eq, if_pos rfl, e14k, show 11 + k.toNat = (11 + k).toNat by omega]
              · rw [mset_ne (fun q => e q.2), if_neg e]; exact e14 i hi
            refine ok_aload_n F dX8_scarce_73 0 rfl ?_
            refine ok_aload_n F dX8_scarce_74 0 rfl ?_
            refine ok_getr F dX8_scarce_75 kF_X8_52 sh_0 rfl ?_
            refine ok_iconst F dX8_scarce_78 ?_
            refine ok_callv F [pR 14, pI 0] dX8_scarce_79 kM_X8_gaps kI_X8_gaps kV_X8_gaps kL_X8_312 (ci := 8) rfl sh_0 rfl (by decide) (Nat.le_of_ble_eq_true rfl) rfl (m_X8_gaps _ 14 0 m_11 (by rw [gw1]; exact hN) (by rw [gw1]; exact hVl) (8) (sh_14) (by decide) (by decide) (by decide) (by rw [gw1]; omega) (fun i hi => by rw [gw1] at hi; have a1 := hTl i (by omega); rw [show (0 : Int).toNat + i = i from Nat.zero_add i, g14 i (by omega)]; split <;> omega)) ?_
            rintro _ m_14 ⟨z_13, rfl, r_15⟩
            obtain ⟨g1, g20, gT⟩ := id r_15
            rw [gw1] at g20
            have g2 : z_13 = moreG (fun i => (mem 1 (3 + i)).toNat) (fun i => (mem 1 (11 + i)).toNat) (mem 1 0).toNat k.toNat := by
              rw [g20]
              unfold moreG
              exact gapsF_congr (fun i hi => by rw [show (0 : Int).toNat + i = i from Nat.zero_add i, g14 i (by omega)]; have a1 := hTl i (by omega); by_cases e : i = k.toNat; (rw [if_pos e, if_pos e]; (try dsimp only); omega); (rw [if_neg e, if_neg e]))
            have g3 := gapsF_bd (fun i => (mem 1 (3 + i)).toNat) (fun i => if i = k.toNat then (fun i => (mem 1 (11 + i)).toNat) i + 1 else (fun i => (mem 1 (11 + i)).toNat) i) (mem 1 0).toNat
            have g4 : 0 ≤ z_13 ∧ z_13 ≤ 2501 := by rw [g2]; exact g3
            refine ok_istore (lv' := [(5, pI z_13), (0, pR 0), (1, pI w), (2, pI b), (3, pI c), (4, pI k)]) F dX8_scarce_82 (by decide) rfl ?_
            refine ok_iload F dX8_scarce_84 0 rfl ?_
            refine ok_iload_n F dX8_scarce_86 3 rfl ?_
            refine ok_icmp_ge F 96 dX8_scarce_87 (by decide) (by omega) (by omega) (fun c_16 => ?_) (fun c_16 => ?_)
            · refine ok_iinc (lv' := [(4, pI (k + 1)), (5, pI z_13), (0, pR 0), (1, pI w), (2, pI b), (3, pI c)]) F dX8_scarce_96 5 rfl (by decide) rfl ?_
              refine ok_goto F 29 dX8_scarce_99 (by decide) ?_
              refine ok_lvp [2, 3, 4, 5, 0] (lv' := [(0, pR 0), (1, pI w), (2, pI b), (3, pI c), (4, pI (k + 1))]) rfl ?_
              refine ih_29 _ ?_ b c (k + 1) m_14 ?_ rfl
              · omega
              · first
                  | (refine ⟨by omega, by omega, hF, ?_, ?_, by omega, by omega, by omega⟩ <;> (rw [scarceF_s _ _ _ hk0, if_neg (by omega)]; assumption))
                  | (refine ⟨by omega, by omega, fun a a1 a2 a3 => by rw [g1 a a1 a2, gw a a3, hF a a1 a2 a3], ?_, ?_, by omega, by omega, by omega⟩ <;> (rw [scarceF_s _ _ _ hk0]; first | (rw [if_pos (by omega)] <;> (first | rfl | exact g2)) | (rw [if_neg (by omega)]; assumption)))
            · refine ok_iload F dX8_scarce_90 0 rfl ?_
              refine ok_istore_n (lv' := [(2, pI z_13), (5, pI z_13), (0, pR 0), (1, pI w), (3, pI c), (4, pI k)]) F dX8_scarce_92 (by decide) rfl ?_
              refine ok_iload F dX8_scarce_93 5 rfl ?_
              refine ok_istore_n (lv' := [(3, pI k), (2, pI z_13), (5, pI z_13), (0, pR 0), (1, pI w), (4, pI k)]) F dX8_scarce_95 (by decide) rfl ?_
              refine ok_iinc (lv' := [(4, pI (k + 1)), (3, pI k), (2, pI z_13), (5, pI z_13), (0, pR 0), (1, pI w)]) F dX8_scarce_96 5 rfl (by decide) rfl ?_
              refine ok_goto F 29 dX8_scarce_99 (by decide) ?_
              refine ok_lvp [4, 5, 2, 1, 0] (lv' := [(0, pR 0), (1, pI w), (2, pI z_13), (3, pI k), (4, pI (k + 1))]) rfl ?_
              refine ih_29 _ ?_ z_13 k (k + 1) m_14 ?_ rfl
              · omega
              · first
                  | (refine ⟨by omega, by omega, hF, ?_, ?_, by omega, by omega, by omega⟩ <;> (rw [scarceF_s _ _ _ hk0, if_neg (by omega)]; assumption))
                  | (refine ⟨by omega, by omega, fun a a1 a2 a3 => by rw [g1 a a1 a2, gw a a3, hF a a1 a2 a3], ?_, ?_, by omega, by omega, by omega⟩ <;> (rw [scarceF_s _ _ _ hk0]; first | (rw [if_pos (by omega)] <;> (first | rfl | exact g2)) | (rw [if_neg (by omega)]; assumption)))
          · refine ok_goto F 96 dX8_scarce_55 (by decide) ?_
            refine ok_iinc (lv' := [(4, pI (k + 1)), (0, pR 0), (1, pI w), (2, pI b), (3, pI c)]) F dX8_scarce_96 4 rfl (by decide) rfl ?_
            refine ok_goto F 29 dX8_scarce_99 (by decide) ?_
            refine ok_lvp [1, 2, 3, 4, 0] (lv' := [(0, pR 0), (1, pI w), (2, pI b), (3, pI c), (4, pI (k + 1))]) rfl ?_
            refine ih_29 _ ?_ b c (k + 1) m ?_ rfl
            · omega
            · first
                | (refine ⟨by omega, by omega, hF, ?_, ?_, by omega, by omega, by omega⟩ <;> (rw [scarceF_s _ _ _ hk0, if_neg (by omega)]; assumption))
                | (refine ⟨by omega, by omega, fun a a1 a2 a3 => by rw [g1 a a1 a2, gw a a3, hF a a1 a2 a3], ?_, ?_, by omega, by omega, by omega⟩ <;> (rw [scarceF_s _ _ _ hk0]; first | (rw [if_pos (by omega)] <;> (first | rfl | exact g2)) | (rw [if_neg (by omega)]; assumption)))
    refine ok_lvp [3, 4, 2, 1, 0] (lv' := [(0, pR 0), (1, pI w), (2, pI z_2), (3, pI (-2)), (4, pI 0)]) rfl ?_
    refine hL_29 _ z_2 (-2) 0 m_3 ?_ rfl
    refine ⟨by omega, by omega, fun a a1 a2 _ => hfr a a1 a2, hz, rfl, by rw [hz]; exact gapsF_bd _ _ _, by omega, by omega⟩
  · refine ok_iconst F dX8_scarce_10 ?_
    refine ok_iret F G dX8_scarce_11 ?_
    exact ⟨_, rfl, Keep.rf _, by rw [if_neg (by omega)]⟩
