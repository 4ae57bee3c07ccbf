/-! the class: what is asked about days -/
/-- a day lived from a row; the till's row -/
def LF (f : Nat → Int) (d : Int) (w : Nat → Int) : LfS := lifeN f d (life0 w (fun _ => 0)) (f 2).toNat
def tilF (f : Nat → Int) : Nat → Int := fun k => f (11 + k)
theorem LF_congr {f w w' : Nat → Int} {d : Int} (hG : GR f) (h : ∀ k, k < 8 → w k = w' k) : (∀ k, k < 8 → (LF f d w).1 k = (LF f d w').1 k) ∧ (∀ k, k < 8 → (LF f d w).2.1 k = (LF f d w').2.1 k) ∧ (LF f d w).2.2 = (LF f d w').2.2 := lifeN_congr hG.1.2 h _
theorem GR.giv {f : Nat → Int} (hG : GR f) : ∀ s : Nat, s < (f 2).toNat → ∀ k : Nat, k < 8 → 0 ≤ sGiven f s k := fun s hs k hk => by
  have g2 := hG.2.2.1
  exact ((hG.2.2.2.2.2.2.2.1 s (by omega)).2.2.1 k hk).1
theorem LF_bd {f w : Nat → Int} {d : Int} (hG : GR f) (hw : ∀ k : Nat, k < 8 → 0 ≤ w k ∧ w k ≤ 99) : LB (f 2).toNat (LF f d w) := lifeN_bd hG.1.2 (life0_bd hw) hG.giv
theorem LF_pc {f w : Nat → Int} {d : Int} : 0 ≤ (LF f d w).2.2.2.1 ∧ (LF f d w).2.2.2.1 ≤ (f 2).toNat * 1000000 := lifeN_pc rfl _
theorem LRepC.congr {m : Mem} {L L' : LfS} (h : LRepC m L) (e : (∀ k, k < 8 → L.1 k = L'.1 k) ∧ (∀ k, k < 8 → L.2.1 k = L'.2.1 k) ∧ L.2.2 = L'.2.2) : LRepC m L' := by
  obtain ⟨h1, h2, h3⟩ := h
  obtain ⟨e1, e2, e3⟩ := e
  rw [e3] at h3
  exact ⟨fun k hk => by rw [h1 k hk, e1 k hk], fun k hk => by rw [h2 k hk, e2 k hk], h3⟩
theorem LRepC.cell {m mv : Mem} {L : LfS} (h : LRepC m L) (e : ∀ c, 179 ≤ c → c ≤ 181 → mv c = m c) : LRepC mv L := by
  obtain ⟨h1, h2, h3⟩ := h
  rw [← e 179 (by omega) (by omega)] at h3
  rw [← e 180 (by omega) (by omega)] at h1
  rw [← e 181 (by omega) (by omega)] at h2
  exact ⟨h1, h2, h3⟩
theorem day_cnt {f : Nat → Int} (hG : GR f) {d : Int} (hd : 0 ≤ d) : sumN (fun s => if sDay f s = d then 1 else 0) (f 2).toNat = dayC f d := by
  obtain ⟨h1, h2, h3, h4⟩ := day_iff hG hd
  rw [day_sum hG hd (fun _ => 1)]
  have one : ∀ n : Nat, sumN (fun _ => (1 : Int)) n = n := fun n => by
    induction n with
    | zero => rfl
    | succ n ih =>
      show sumN (fun _ => (1 : Int)) n + 1 = _
      rw [ih]; omega
  rw [one]; omega
theorem RS.prc {m : Mem} {b : Nat} {f : Nat → Int} (h : RS m b f) (hG : GR f) {d : Int} (hd : 0 ≤ d ∧ d < f 1) : sumN (fun i => m (b + 9) ((fstD (m (b + 8)) d).toNat + i)) (nsaD (m (b + 8)) (m b 1) d).toNat = sumN (fun s => if sDay f s = d then sPrice f s else 0) (f 2).toNat := by
  obtain ⟨h1, h2, h3, h4⟩ := day_iff hG hd.1
  rw [day_sum hG hd.1, h.2.1, h.nsa hG hd, h.fst hG (by omega)]
  exact sumN_congr (fun i hi => (h.2.2.2.1 _ (by omega)).1)
theorem again_congr {f : Nat → Int} {d : Int} (hN : f 0 ≤ 8) {n2 : Nat} {w low w' low' : Nat → Int} (h : ∀ k, k < 8 → w k = w' k) : ∀ (t : Nat), ∀ k, k < 8 → (againN f d n2 (w, low) t).1 k = (againN f d n2 (w', low') t).1 k
  | 0 => h
  | t + 1 => (lifeN_congr hN (again_congr hN h t) n2).1
theorem last_congr {f : Nat → Int} {d : Int} (hN : f 0 ≤ 8) {n2 : Nat} : ∀ (t : Nat) {w low w' low' : Nat → Int}, (∀ k, k < 8 → w k = w' k) → lastF f d n2 t w low = lastF f d n2 t w' low'
  | 0, _, _, _, _, _ => rfl
  | t + 1, w, low, w', low', h => by
    have c := lifeN_congr (low := low) (low' := low') (d := d) hN h n2
    rw [lastF_s, lastF_s, c.2.2, last_congr hN t c.1]
theorem lastF_bd {f : Nat → Int} {d : Int} {n2 : Nat} : ∀ (t : Nat) (w low : Nat → Int), 0 ≤ lastF f d n2 t w low ∧ lastF f d n2 t w low ≤ t
  | 0, _, _ => ⟨Int.le_refl _, Int.le_refl _⟩
  | t + 1, w, low => by
    rw [lastF_s]
    have := lastF_bd (f := f) (d := d) (n2 := n2) t (lifeN f d (life0 w low) n2).1 (lifeN f d (life0 w low) n2).2.1
    split <;> omega
/-- the worst of the first days -/
def worC (f : Nat → Int) : Nat → Int × Int × Int
  | 0 => (-2, -2, -2)
  | n + 1 => if (worC f n).2.1 < (LF f n (tilF f)).2.2.1 ∨ (LF f n (tilF f)).2.2.1 = (worC f n).2.1 ∧ (worC f n).2.2 < (LF f n (tilF f)).2.2.2.1 then ((n : Int), (LF f n (tilF f)).2.2.1, (LF f n (tilF f)).2.2.2.1) else worC f n
theorem worC_s (f : Nat → Int) {k : Int} (h : 0 ≤ k) : worC f (k + 1).toNat = if (worC f k.toNat).2.1 < (LF f k (tilF f)).2.2.1 ∨ (LF f k (tilF f)).2.2.1 = (worC f k.toNat).2.1 ∧ (worC f k.toNat).2.2 < (LF f k (tilF f)).2.2.2.1 then (k, (LF f k (tilF f)).2.2.1, (LF f k (tilF f)).2.2.2.1) else worC f k.toNat := by
  have e : ((k.toNat : Nat) : Int) = k := by omega
  rw [show (k + 1).toNat = k.toNat + 1 by omega]
  show (if (worC f k.toNat).2.1 < (LF f ((k.toNat : Nat) : Int) (tilF f)).2.2.1 ∨ (LF f ((k.toNat : Nat) : Int) (tilF f)).2.2.1 = (worC f k.toNat).2.1 ∧ (worC f k.toNat).2.2 < (LF f ((k.toNat : Nat) : Int) (tilF f)).2.2.2.1 then (((k.toNat : Nat) : Int), (LF f ((k.toNat : Nat) : Int) (tilF f)).2.2.1, (LF f ((k.toNat : Nat) : Int) (tilF f)).2.2.2.1) else worC f k.toNat) = _
  rw [e]
theorem noneAt_s (g : Nat → Int) (n k : Nat) : noneAt g (n + 1) k = if g k = 0 then (k : Int) else noneAt g n (k + 1) := rfl
theorem noneAt_congr {g h : Nat → Int} : ∀ (n k : Nat), (∀ i, k ≤ i → i < k + n → g i = h i) → noneAt g n k = noneAt h n k
  | 0, _, _ => rfl
  | n + 1, k, e => by rw [noneAt_s, noneAt_s, e k (by omega) (by omega), noneAt_congr n (k + 1) (fun i h1 h2 => e i (by omega) (by omega))]
theorem dX7_firstEmpty_0 : decode cX7_firstEmpty 0 = .ok (.iconst 0, 1) := by decide +kernel
theorem dX7_firstEmpty_1 : decode cX7_firstEmpty 1 = .ok (.istore_n 2, 1) := by decide +kernel
theorem dX7_firstEmpty_2 : decode cX7_firstEmpty 2 = .ok (.iload_n 2, 1) := by decide +kernel
theorem dX7_firstEmpty_3 : decode cX7_firstEmpty 3 = .ok (.aload_n 0, 1) := by decide +kernel
theorem dX7_firstEmpty_4 : decode cX7_firstEmpty 4 = .ok (.getfield 10, 3) := by decide +kernel
theorem dX7_firstEmpty_7 : decode cX7_firstEmpty 7 = .ok (.getfield 103, 3) := by decide +kernel
theorem dX7_firstEmpty_10 : decode cX7_firstEmpty 10 = .ok (.if_icmp .ge 17, 3) := by decide +kernel
theorem dX7_firstEmpty_13 : decode cX7_firstEmpty 13 = .ok (.aload_n 1, 1) := by decide +kernel
theorem dX7_firstEmpty_14 : decode cX7_firstEmpty 14 = .ok (.iload_n 2, 1) := by decide +kernel
theorem dX7_firstEmpty_15 : decode cX7_firstEmpty 15 = .ok (.iaload, 1) := by decide +kernel
theorem dX7_firstEmpty_16 : decode cX7_firstEmpty 16 = .ok (.ifCond .ne 5, 3) := by decide +kernel
theorem dX7_firstEmpty_19 : decode cX7_firstEmpty 19 = .ok (.iload_n 2, 1) := by decide +kernel
theorem dX7_firstEmpty_20 : decode cX7_firstEmpty 20 = .ok (.ireturn, 1) := by decide +kernel
theorem dX7_firstEmpty_21 : decode cX7_firstEmpty 21 = .ok (.iinc 2 1, 3) := by decide +kernel
theorem dX7_firstEmpty_24 : decode cX7_firstEmpty 24 = .ok (.goto (-22), 3) := by decide +kernel
theorem dX7_firstEmpty_27 : decode cX7_firstEmpty 27 = .ok (.bipush (-2), 2) := by decide +kernel
theorem dX7_firstEmpty_29 : decode cX7_firstEmpty 29 = .ok (.ireturn, 1) := by decide +kernel
set_option maxHeartbeats 4000000 in
set_option maxRecDepth 100000 in
theorem m_X7_firstEmpty (l : Launch) (R : Nat) (mem : Mem) (hN : 0 ≤ mem 21 0 ∧ mem 21 0 ≤ 8) (hR : shp[R]? = some (.inr (.inl (0, 8)))) (hW : ∀ k : Nat, k < 8 → 0 ≤ mem R k ∧ mem R k ≤ 99) : Ret shp l yX7_firstEmpty cX7_firstEmpty 3 (some .int) 1 [pR 20, pR R] mem (fun rv mv => rv = some (pI (noneAt (mem R) (mem 21 0).toNat 0)) ∧ mem = mv) := by
  refine ret_of (by decide +kernel) (Nat.le_of_ble_eq_true rfl) (fun X hX F G => ?_)
  show Ok shp X 3 0 [(0, pR 20), (1, pR R)] [] mem
  refine ok_iconst F dX7_firstEmpty_0 ?_
  refine ok_istore_n (lv' := [(2, pI 0), (0, pR 20), (1, pR R)]) F dX7_firstEmpty_1 (by decide) rfl ?_
  have hL_2 : ∀ (n_2 : Nat) (k : Int), (0 ≤ k ∧ k ≤ mem 21 0 ∧ noneAt (mem R) (mem 21 0).toNat 0 = noneAt (mem R) (mem 21 0 - k).toNat k.toNat) → (mem 21 0 - k).toNat = n_2 → Ok shp X 3 2 [(0, pR 20), (1, pR R), (2, pI k)] [] mem := by
    intro n_2
    induction n_2 using Nat.strongRecOn with
    | _ n_2 ih_2 =>
      intro k hI_2 hn_2
      refine ok_iload_n F dX7_firstEmpty_2 2 rfl ?_
      refine ok_aload_n F dX7_firstEmpty_3 0 rfl ?_
      refine ok_getr F dX7_firstEmpty_4 kF_X7_10 sh_20 rfl ?_
      refine ok_getf (v := mem 21 0) F dX7_firstEmpty_7 kF_X7_103 sh_21 rfl rfl ?_
      refine ok_icmp_ge F 27 dX7_firstEmpty_10 (by decide) (by omega) (by omega) (fun c_1 => ?_) (fun c_1 => ?_)
      · refine ok_bipush F dX7_firstEmpty_27 rfl ?_
        refine ok_iret F G dX7_firstEmpty_29 ?_
        refine ⟨?_, rfl⟩
        rw [hI_2.2.2, show (mem 21 0 - k).toNat = 0 by omega]
        rfl
      · have q1 := hW k.toNat (by omega)
        refine ok_aload_n F dX7_firstEmpty_13 1 rfl ?_
        refine ok_iload_n F dX7_firstEmpty_14 2 rfl ?_
        refine ok_iald (v := mem R k.toNat) F dX7_firstEmpty_15 hR (by first | decide | assumption) (by omega) (by omega) rfl ?_
        refine ok_if_ne F 21 dX7_firstEmpty_16 (by decide) (by omega) (fun c_2 => ?_) (fun c_2 => ?_)
        · refine ok_iinc (lv' := [(2, pI (k + 1)), (0, pR 20), (1, pR R)]) F dX7_firstEmpty_21 2 rfl (by decide) rfl ?_
          refine ok_goto F 2 dX7_firstEmpty_24 (by decide) ?_
          refine ok_lvp [1, 2, 0] (lv' := [(0, pR 20), (1, pR R), (2, pI (k + 1))]) rfl ?_
          refine ih_2 _ ?_ (k + 1) ?_ rfl
          · omega
          · refine ⟨by omega, by omega, ?_⟩
            rw [hI_2.2.2, show (mem 21 0 - k).toNat = (mem 21 0 - (k + 1)).toNat + 1 by omega, noneAt_s, if_neg (by omega), show (k + 1).toNat = k.toNat + 1 by omega]
        · refine ok_iload_n F dX7_firstEmpty_19 2 rfl ?_
          refine ok_iret F G dX7_firstEmpty_20 ?_
          refine ⟨?_, rfl⟩
          rw [hI_2.2.2, show (mem 21 0 - k).toNat = (mem 21 0 - (k + 1)).toNat + 1 by omega, noneAt_s, if_pos (by omega), show ((k.toNat : Nat) : Int) = k by omega]
  refine ok_lvp [1, 2, 0] (lv' := [(0, pR 20), (1, pR R), (2, pI 0)]) rfl ?_
  refine hL_2 _ 0 ?_ rfl
  exact ⟨by omega, by omega, by rw [Int.sub_zero]; rfl⟩
theorem dX7_day_0 : decode cX7_day 0 = .ok (.aload_n 0, 1) := by decide +kernel
theorem dX7_day_1 : decode cX7_day 1 = .ok (.iload_n 1, 1) := by decide +kernel
theorem dX7_day_2 : decode cX7_day 2 = .ok (.invokevirtual 146, 3) := by decide +kernel
theorem dX7_day_5 : decode cX7_day 5 = .ok (.ifCond .eq 12, 3) := by decide +kernel
theorem dX7_day_8 : decode cX7_day 8 = .ok (.iload_n 2, 1) := by decide +kernel
theorem dX7_day_9 : decode cX7_day 9 = .ok (.ifCond .lt 8, 3) := by decide +kernel
theorem dX7_day_12 : decode cX7_day 12 = .ok (.iload_n 2, 1) := by decide +kernel
theorem dX7_day_13 : decode cX7_day 13 = .ok (.iconst 5, 1) := by decide +kernel
theorem dX7_day_14 : decode cX7_day 14 = .ok (.if_icmp .le 5, 3) := by decide +kernel
theorem dX7_day_17 : decode cX7_day 17 = .ok (.iconst (-1), 1) := by decide +kernel
theorem dX7_day_18 : decode cX7_day 18 = .ok (.ireturn, 1) := by decide +kernel
theorem dX7_day_19 : decode cX7_day 19 = .ok (.iload_n 2, 1) := by decide +kernel
theorem dX7_day_20 : decode cX7_day 20 = .ok (.ifCond .ne 12, 3) := by decide +kernel
theorem dX7_day_23 : decode cX7_day 23 = .ok (.aload_n 0, 1) := by decide +kernel
theorem dX7_day_24 : decode cX7_day 24 = .ok (.getfield 10, 3) := by decide +kernel
theorem dX7_day_27 : decode cX7_day 27 = .ok (.iload_n 1, 1) := by decide +kernel
theorem dX7_day_28 : decode cX7_day 28 = .ok (.invokevirtual 215, 3) := by decide +kernel
theorem dX7_day_31 : decode cX7_day 31 = .ok (.ireturn, 1) := by decide +kernel
theorem dX7_day_32 : decode cX7_day 32 = .ok (.iload_n 2, 1) := by decide +kernel
theorem dX7_day_33 : decode cX7_day 33 = .ok (.iconst 1, 1) := by decide +kernel
theorem dX7_day_34 : decode cX7_day 34 = .ok (.if_icmp .ne 12, 3) := by decide +kernel
theorem dX7_day_37 : decode cX7_day 37 = .ok (.aload_n 0, 1) := by decide +kernel
theorem dX7_day_38 : decode cX7_day 38 = .ok (.getfield 10, 3) := by decide +kernel
theorem dX7_day_41 : decode cX7_day 41 = .ok (.iload_n 1, 1) := by decide +kernel
theorem dX7_day_42 : decode cX7_day 42 = .ok (.invokevirtual 287, 3) := by decide +kernel
theorem dX7_day_45 : decode cX7_day 45 = .ok (.ireturn, 1) := by decide +kernel
theorem dX7_day_46 : decode cX7_day 46 = .ok (.aload_n 0, 1) := by decide +kernel
theorem dX7_day_47 : decode cX7_day 47 = .ok (.getfield 38, 3) := by decide +kernel
theorem dX7_day_50 : decode cX7_day 50 = .ok (.aload_n 0, 1) := by decide +kernel
theorem dX7_day_51 : decode cX7_day 51 = .ok (.getfield 10, 3) := by decide +kernel
theorem dX7_day_54 : decode cX7_day 54 = .ok (.getfield 133, 3) := by decide +kernel
theorem dX7_day_57 : decode cX7_day 57 = .ok (.aload_n 0, 1) := by decide +kernel
theorem dX7_day_58 : decode cX7_day 58 = .ok (.getfield 10, 3) := by decide +kernel
theorem dX7_day_61 : decode cX7_day 61 = .ok (.iload_n 1, 1) := by decide +kernel
theorem dX7_day_62 : decode cX7_day 62 = .ok (.invokevirtual 149, 3) := by decide +kernel
theorem dX7_day_65 : decode cX7_day 65 = .ok (.iload_n 2, 1) := by decide +kernel
theorem dX7_day_66 : decode cX7_day 66 = .ok (.tableswitch 50 2 4 #[26, 34, 42], 26) := by decide +kernel
theorem dX7_day_92 : decode cX7_day 92 = .ok (.aload_n 0, 1) := by decide +kernel
theorem dX7_day_93 : decode cX7_day 93 = .ok (.getfield 38, 3) := by decide +kernel
theorem dX7_day_96 : decode cX7_day 96 = .ok (.getfield 158, 3) := by decide +kernel
theorem dX7_day_99 : decode cX7_day 99 = .ok (.ireturn, 1) := by decide +kernel
theorem dX7_day_100 : decode cX7_day 100 = .ok (.aload_n 0, 1) := by decide +kernel
theorem dX7_day_101 : decode cX7_day 101 = .ok (.getfield 38, 3) := by decide +kernel
theorem dX7_day_104 : decode cX7_day 104 = .ok (.getfield 290, 3) := by decide +kernel
theorem dX7_day_107 : decode cX7_day 107 = .ok (.ireturn, 1) := by decide +kernel
theorem dX7_day_108 : decode cX7_day 108 = .ok (.aload_n 0, 1) := by decide +kernel
theorem dX7_day_109 : decode cX7_day 109 = .ok (.getfield 38, 3) := by decide +kernel
theorem dX7_day_112 : decode cX7_day 112 = .ok (.getfield 293, 3) := by decide +kernel
theorem dX7_day_115 : decode cX7_day 115 = .ok (.ireturn, 1) := by decide +kernel
theorem dX7_day_116 : decode cX7_day 116 = .ok (.aload_n 0, 1) := by decide +kernel
theorem dX7_day_117 : decode cX7_day 117 = .ok (.aload_n 0, 1) := by decide +kernel
theorem dX7_day_118 : decode cX7_day 118 = .ok (.getfield 38, 3) := by decide +kernel
theorem dX7_day_121 : decode cX7_day 121 = .ok (.getfield 153, 3) := by decide +kernel
theorem dX7_day_124 : decode cX7_day 124 = .ok (.invokevirtual 296, 3) := by decide +kernel
theorem dX7_day_127 : decode cX7_day 127 = .ok (.ireturn, 1) := by decide +kernel
set_option maxHeartbeats 4000000 in
set_option maxRecDepth 100000 in
theorem m_X7_day (l : Launch) (f : Nat → Int) (d : Int) (w : Int) (mem : Mem) (hd : i32 d) (hw : i32 w) (hCI : CI mem) (hRS : RS mem 21 f) (hG : GR f) : Ret shp l yX7_day cX7_day 3 (some .int) 6 [pR 20, pI d, pI w] mem (fun rv mv => ∃ z, rv = some (pI z) ∧ KeepC mem mv ∧ z = if (0 ≤ d ∧ d < f 1) ∧ 0 ≤ w ∧ w ≤ 5 then (if w = 0 then sumN (fun s => if sDay f s = d then 1 else 0) (f 2).toNat else if w = 1 then sumN (fun s => if sDay f s = d then sPrice f s else 0) (f 2).toNat else if w = 2 then (LF f d (tilF f)).2.2.1 else if w = 3 then (LF f d (tilF f)).2.2.2.1 else if w = 4 then (LF f d (tilF f)).2.2.2.2.2.1 else noneAt (LF f d (tilF f)).1 (f 0).toNat 0) else -1) := by
  refine ret_of (by decide +kernel) (Nat.le_of_ble_eq_true rfl) (fun X hX F G => ?_)
  show Ok shp X 3 0 [(0, pR 20), (1, pI d), (2, pI w)] [] mem
  have he0 : mem 21 0 = f 0 := hRS.1
  have he1 : mem 21 1 = f 1 := hRS.2.1
  have gb0 := hG.1
  have gb1 := hG.2.1
  have gb2 := hG.2.2.1
  have hTl : ∀ k : Nat, k < 8 → mem 23 k = f (11 + k) := fun k hk => hRS.2.2.1 1 (by omega) k hk
  have hT : ∀ k : Nat, k < 8 → 0 ≤ f (11 + k) ∧ f (11 + k) ≤ 99 := fun k hk => hG.2.2.2.2.2.1 0 (by omega) k hk
  have hW : ∀ k : Nat, k < 8 → 0 ≤ mem 23 k ∧ mem 23 k ≤ 99 := fun k hk => by rw [hTl k hk]; exact hT k hk
  refine ok_aload_n F dX7_day_0 0 rfl ?_
  refine ok_iload_n F dX7_day_1 1 rfl ?_
  refine ok_callv F [pI d] dX7_day_2 kM_X7_hasDay kI_X7_hasDay kV_X7_hasDay kL_X7_146 (ci := 7) rfl sh_20 rfl (by decide) (Nat.le_of_ble_eq_true rfl) rfl (m_X7_hasDay _ d mem (by omega) (by omega)) ?_
  rintro _ _ ⟨rfl, rfl⟩
  refine ok_if_eq F 17 dX7_day_5 (by decide) (by omega) (fun c_1 => ?_) (fun c_1 => ?_)
  · refine ok_iconst F dX7_day_17 ?_
    refine ok_iret F G dX7_day_18 ?_
    exact ⟨_, rfl, KeepC.rf hCI, by rw [if_neg (by omega)]⟩
  · refine ok_iload_n F dX7_day_8 2 rfl ?_
    refine ok_if_lt F 17 dX7_day_9 (by decide) (by omega) (fun c_2 => ?_) (fun c_2 => ?_)
    · refine ok_iconst F dX7_day_17 ?_
      refine ok_iret F G dX7_day_18 ?_
      exact ⟨_, rfl, KeepC.rf hCI, by rw [if_neg (by omega)]⟩
    · refine ok_iload_n F dX7_day_12 2 rfl ?_
      refine ok_iconst F dX7_day_13 ?_
      refine ok_icmp_le F 19 dX7_day_14 (by decide) (by omega) (by omega) (fun c_3 => ?_) (fun c_3 => ?_)
      · refine ok_iload_n F dX7_day_19 2 rfl ?_
        refine ok_if_ne F 32 dX7_day_20 (by decide) (by omega) (fun c_4 => ?_) (fun c_4 => ?_)
        · refine ok_iload_n F dX7_day_32 2 rfl ?_
          refine ok_iconst F dX7_day_33 ?_
          refine ok_icmp_ne F 46 dX7_day_34 (by decide) (by omega) (by omega) (fun c_5 => ?_) (fun c_5 => ?_)
          · refine ok_aload_n F dX7_day_46 0 rfl ?_
            refine ok_getr F dX7_day_47 kF_X7_38 sh_20 rfl ?_
            refine ok_aload_n F dX7_day_50 0 rfl ?_
            refine ok_getr F dX7_day_51 kF_X7_10 sh_20 rfl ?_
            refine ok_getr F dX7_day_54 kF_X7_133 sh_21 rfl ?_
            refine ok_aload_n F dX7_day_57 0 rfl ?_
            refine ok_getr F dX7_day_58 kF_X7_10 sh_20 rfl ?_
            refine ok_iload_n F dX7_day_61 1 rfl ?_
            refine ok_callv F [pR 23, pR 21, pI d] dX7_day_62 kM_X2_liveFrom kI_X2_liveFrom kV_X2_liveFrom kL_X7_149 (ci := 2) rfl sh_179 rfl (by decide) (Nat.le_of_ble_eq_true rfl) rfl (m_X2_liveFrom _ f 23 d mem (hCI) (hRS) (hG) (sh_23) (by decide) (hW) (by omega)) ?_
            rintro _ m_7 ⟨rfl, r_8⟩
            obtain ⟨l1, l2, l3, l4⟩ := id r_8
            have lL : LRepC m_7 (LF f d (tilF f)) := l3.congr (LF_congr hG hTl)
            have lB := LF_bd (d := d) (w := tilF f) hG hT
            have lP := LF_pc (f := f) (d := d) (w := tilF f)
            have lB3 := lB.2.2.1
            have hkp : KeepC mem m_7 := ⟨fun c hc => l1 c (by omega), l2⟩
            refine ok_iload_n F dX7_day_65 2 rfl ?_
            by_cases c_9o : w < 2 ∨ 4 < w
            · refine ok_tabOut F 116 dX7_day_66 (by omega) c_9o (by decide) ?_
              refine ok_aload_n F dX7_day_116 0 rfl ?_
              refine ok_aload_n F dX7_day_117 0 rfl ?_
              refine ok_getr F dX7_day_118 kF_X7_38 sh_20 rfl ?_
              refine ok_getr F dX7_day_121 kF_X7_153 sh_179 rfl ?_
              refine ok_callv F [pR 180] dX7_day_124 kM_X7_firstEmpty kI_X7_firstEmpty kV_X7_firstEmpty kL_X7_296 (ci := 7) rfl sh_20 rfl (by decide) (Nat.le_of_ble_eq_true rfl) rfl (m_X7_firstEmpty _ 180 m_7 (by rw [l1 21 (by decide)]; omega) (sh_180) (fun k hk => by rw [lL.1 k hk]; exact lB.1 k hk)) ?_
              rintro _ _ ⟨rfl, rfl⟩
              refine ok_iret F G dX7_day_127 ?_
              refine ⟨_, rfl, hkp, ?_⟩
              rw [if_pos (by omega), if_neg (by omega), if_neg (by omega), if_neg (by omega), if_neg (by omega), if_neg (by omega), l1 21 (by decide), he0]
              exact noneAt_congr _ _ (fun i _ hi => lL.1 i (by omega))
            by_cases c_9_0 : w = 2
            · refine ok_tabIn F 92 dX7_day_66 (by omega) (by omega) (by omega) (off := 26) (by rw [c_9_0]; rfl) (by decide) ?_
              refine ok_aload_n F dX7_day_92 0 rfl ?_
              refine ok_getr F dX7_day_93 kF_X7_38 sh_20 rfl ?_
              refine ok_getf (v := m_7 179 3) F dX7_day_96 kF_X7_158 sh_179 rfl rfl ?_
              refine ok_iret F G dX7_day_99 ?_
              refine ⟨_, rfl, hkp, ?_⟩
              rw [if_pos (by omega)]
              subst w
              exact lL.2.2.1
            by_cases c_9_1 : w = 3
            · refine ok_tabIn F 100 dX7_day_66 (by omega) (by omega) (by omega) (off := 34) (by rw [c_9_1]; rfl) (by decide) ?_
              refine ok_aload_n F dX7_day_100 0 rfl ?_
              refine ok_getr F dX7_day_101 kF_X7_38 sh_20 rfl ?_
              refine ok_getf (v := m_7 179 4) F dX7_day_104 kF_X7_290 sh_179 rfl rfl ?_
              refine ok_iret F G dX7_day_107 ?_
              refine ⟨_, rfl, hkp, ?_⟩
              rw [if_pos (by omega)]
              subst w
              exact lL.2.2.2.1
            by_cases c_9_2 : w = 4
            · refine ok_tabIn F 108 dX7_day_66 (by omega) (by omega) (by omega) (off := 42) (by rw [c_9_2]; rfl) (by decide) ?_
              refine ok_aload_n F dX7_day_108 0 rfl ?_
              refine ok_getr F dX7_day_109 kF_X7_38 sh_20 rfl ?_
              refine ok_getf (v := m_7 179 5) F dX7_day_112 kF_X7_293 sh_179 rfl rfl ?_
              refine ok_iret F G dX7_day_115 ?_
              refine ⟨_, rfl, hkp, ?_⟩
              rw [if_pos (by omega)]
              subst w
              exact lL.2.2.2.2.1
            exfalso; omega
          · refine ok_aload_n F dX7_day_37 0 rfl ?_
            refine ok_getr F dX7_day_38 kF_X7_10 sh_20 rfl ?_
            refine ok_iload_n F dX7_day_41 1 rfl ?_
            refine ok_callv F [pI d] dX7_day_42 kM_X6_pricesOf kI_X6_pricesOf kV_X6_pricesOf kL_X7_287 (ci := 6) rfl sh_21 rfl (by decide) (Nat.le_of_ble_eq_true rfl) rfl (m_X6_pricesOf _ d mem (by omega) (by omega) (by rw [he1, hRS.nsa hG (by omega), hRS.fst hG (by omega)]; have := day_iff hG (show 0 ≤ d by omega); omega)) ?_
            rintro _ _ ⟨rfl, rfl⟩
            refine ok_iret F G dX7_day_45 ?_
            refine ⟨_, rfl, KeepC.rf hCI, ?_⟩
            rw [if_pos (by omega), if_neg (by omega), if_pos (by omega)]
            exact hRS.prc hG (by omega)
        · refine ok_aload_n F dX7_day_23 0 rfl ?_
          refine ok_getr F dX7_day_24 kF_X7_10 sh_20 rfl ?_
          refine ok_iload_n F dX7_day_27 1 rfl ?_
          refine ok_callv F [pI d] dX7_day_28 kM_X6_salesOf kI_X6_salesOf kV_X6_salesOf kL_X7_215 (ci := 6) rfl sh_21 rfl (by decide) (Nat.le_of_ble_eq_true rfl) rfl (m_X6_salesOf_21 _ d mem (by omega) (by omega)) ?_
          rintro _ _ ⟨rfl, rfl⟩
          refine ok_iret F G dX7_day_31 ?_
          refine ⟨_, rfl, KeepC.rf hCI, ?_⟩
          rw [if_pos (by omega), if_pos (by omega), day_cnt hG (by omega), he1]
          exact hRS.nsa hG (by omega)
      · refine ok_iconst F dX7_day_17 ?_
        refine ok_iret F G dX7_day_18 ?_
        exact ⟨_, rfl, KeepC.rf hCI, by rw [if_neg (by omega)]⟩
theorem dX7_behind_0 : decode cX7_behind 0 = .ok (.aload_n 0, 1) := by decide +kernel
theorem dX7_behind_1 : decode cX7_behind 1 = .ok (.iload_n 1, 1) := by decide +kernel
theorem dX7_behind_2 : decode cX7_behind 2 = .ok (.invokevirtual 146, 3) := by decide +kernel
theorem dX7_behind_5 : decode cX7_behind 5 = .ok (.ifCond .eq 22, 3) := by decide +kernel
theorem dX7_behind_8 : decode cX7_behind 8 = .ok (.iload_n 2, 1) := by decide +kernel
theorem dX7_behind_9 : decode cX7_behind 9 = .ok (.iconst 1, 1) := by decide +kernel
theorem dX7_behind_10 : decode cX7_behind 10 = .ok (.if_icmp .lt 17, 3) := by decide +kernel
theorem dX7_behind_13 : decode cX7_behind 13 = .ok (.iload_n 2, 1) := by decide +kernel
theorem dX7_behind_14 : decode cX7_behind 14 = .ok (.bipush 20, 2) := by decide +kernel
theorem dX7_behind_16 : decode cX7_behind 16 = .ok (.if_icmp .gt 11, 3) := by decide +kernel
theorem dX7_behind_19 : decode cX7_behind 19 = .ok (.aload_n 0, 1) := by decide +kernel
theorem dX7_behind_20 : decode cX7_behind 20 = .ok (.iload_n 3, 1) := by decide +kernel
theorem dX7_behind_21 : decode cX7_behind 21 = .ok (.invokevirtual 106, 3) := by decide +kernel
theorem dX7_behind_24 : decode cX7_behind 24 = .ok (.ifCond .ne 5, 3) := by decide +kernel
theorem dX7_behind_27 : decode cX7_behind 27 = .ok (.iconst (-1), 1) := by decide +kernel
theorem dX7_behind_28 : decode cX7_behind 28 = .ok (.ireturn, 1) := by decide +kernel
theorem dX7_behind_29 : decode cX7_behind 29 = .ok (.aload_n 0, 1) := by decide +kernel
theorem dX7_behind_30 : decode cX7_behind 30 = .ok (.getfield 38, 3) := by decide +kernel
theorem dX7_behind_33 : decode cX7_behind 33 = .ok (.aload_n 0, 1) := by decide +kernel
theorem dX7_behind_34 : decode cX7_behind 34 = .ok (.getfield 10, 3) := by decide +kernel
theorem dX7_behind_37 : decode cX7_behind 37 = .ok (.getfield 133, 3) := by decide +kernel
theorem dX7_behind_40 : decode cX7_behind 40 = .ok (.aload_n 0, 1) := by decide +kernel
theorem dX7_behind_41 : decode cX7_behind 41 = .ok (.getfield 10, 3) := by decide +kernel
theorem dX7_behind_44 : decode cX7_behind 44 = .ok (.iload_n 1, 1) := by decide +kernel
theorem dX7_behind_45 : decode cX7_behind 45 = .ok (.invokevirtual 149, 3) := by decide +kernel
theorem dX7_behind_48 : decode cX7_behind 48 = .ok (.iconst 1, 1) := by decide +kernel
theorem dX7_behind_49 : decode cX7_behind 49 = .ok (.istore 4, 2) := by decide +kernel
theorem dX7_behind_51 : decode cX7_behind 51 = .ok (.iload 4, 2) := by decide +kernel
theorem dX7_behind_53 : decode cX7_behind 53 = .ok (.iload_n 2, 1) := by decide +kernel
theorem dX7_behind_54 : decode cX7_behind 54 = .ok (.if_icmp .ge 28, 3) := by decide +kernel
theorem dX7_behind_57 : decode cX7_behind 57 = .ok (.aload_n 0, 1) := by decide +kernel
theorem dX7_behind_58 : decode cX7_behind 58 = .ok (.getfield 38, 3) := by decide +kernel
theorem dX7_behind_61 : decode cX7_behind 61 = .ok (.aload_n 0, 1) := by decide +kernel
theorem dX7_behind_62 : decode cX7_behind 62 = .ok (.getfield 38, 3) := by decide +kernel
theorem dX7_behind_65 : decode cX7_behind 65 = .ok (.getfield 153, 3) := by decide +kernel
theorem dX7_behind_68 : decode cX7_behind 68 = .ok (.aload_n 0, 1) := by decide +kernel
theorem dX7_behind_69 : decode cX7_behind 69 = .ok (.getfield 10, 3) := by decide +kernel
theorem dX7_behind_72 : decode cX7_behind 72 = .ok (.iload_n 1, 1) := by decide +kernel
theorem dX7_behind_73 : decode cX7_behind 73 = .ok (.invokevirtual 149, 3) := by decide +kernel
theorem dX7_behind_76 : decode cX7_behind 76 = .ok (.iinc 4 1, 3) := by decide +kernel
theorem dX7_behind_79 : decode cX7_behind 79 = .ok (.goto (-28), 3) := by decide +kernel
theorem dX7_behind_82 : decode cX7_behind 82 = .ok (.aload_n 0, 1) := by decide +kernel
theorem dX7_behind_83 : decode cX7_behind 83 = .ok (.getfield 38, 3) := by decide +kernel
theorem dX7_behind_86 : decode cX7_behind 86 = .ok (.getfield 153, 3) := by decide +kernel
theorem dX7_behind_89 : decode cX7_behind 89 = .ok (.iload_n 3, 1) := by decide +kernel
theorem dX7_behind_90 : decode cX7_behind 90 = .ok (.iaload, 1) := by decide +kernel
theorem dX7_behind_91 : decode cX7_behind 91 = .ok (.ireturn, 1) := by decide +kernel
set_option maxHeartbeats 4000000 in
set_option maxRecDepth 100000 in
theorem m_X7_behind (l : Launch) (f : Nat → Int) (d : Int) (t : Int) (k : Int) (mem : Mem) (hd : i32 d) (ht : i32 t) (hk : i32 k) (hCI : CI mem) (hRS : RS mem 21 f) (hG : GR f) : Ret shp l yX7_behind cX7_behind 5 (some .int) 6 [pR 20, pI d, pI t, pI k] mem (fun rv mv => ∃ z, rv = some (pI z) ∧ KeepC mem mv ∧ z = if (0 ≤ d ∧ d < f 1) ∧ (1 ≤ t ∧ t ≤ 20) ∧ 0 ≤ k ∧ k < f 0 then (againN f d (f 2).toNat (tilF f, fun _ => 0) t.toNat).1 k.toNat else -1) := by
  refine ret_of (by decide +kernel) (Nat.le_of_ble_eq_true rfl) (fun X hX F G => ?_)
  show Ok shp X 5 0 [(0, pR 20), (1, pI d), (2, pI t), (3, pI k)] [] mem
  have he0 : mem 21 0 = f 0 := hRS.1
  have he1 : mem 21 1 = f 1 := hRS.2.1
  have gb0 := hG.1
  have gb1 := hG.2.1
  have gb2 := hG.2.2.1
  have hTl : ∀ k : Nat, k < 8 → mem 23 k = f (11 + k) := fun k hk => hRS.2.2.1 1 (by omega) k hk
  have hT : ∀ k : Nat, k < 8 → 0 ≤ f (11 + k) ∧ f (11 + k) ≤ 99 := fun k hk => hG.2.2.2.2.2.1 0 (by omega) k hk
  have hW : ∀ k : Nat, k < 8 → 0 ≤ mem 23 k ∧ mem 23 k ≤ 99 := fun k hk => by rw [hTl k hk]; exact hT k hk
  refine ok_aload_n F dX7_behind_0 0 rfl ?_
  refine ok_iload_n F dX7_behind_1 1 rfl ?_
  refine ok_callv F [pI d] dX7_behind_2 kM_X7_hasDay kI_X7_hasDay kV_X7_hasDay kL_X7_146 (ci := 7) rfl sh_20 rfl (by decide) (Nat.le_of_ble_eq_true rfl) rfl (m_X7_hasDay _ d mem (by omega) (by omega)) ?_
  rintro _ _ ⟨rfl, rfl⟩
  refine ok_if_eq F 27 dX7_behind_5 (by decide) (by omega) (fun c_1 => ?_) (fun c_1 => ?_)
  · refine ok_iconst F dX7_behind_27 ?_
    refine ok_iret F G dX7_behind_28 ?_
    exact ⟨_, rfl, KeepC.rf hCI, by rw [if_neg (by omega)]⟩
  · refine ok_iload_n F dX7_behind_8 2 rfl ?_
    refine ok_iconst F dX7_behind_9 ?_
    refine ok_icmp_lt F 27 dX7_behind_10 (by decide) (by omega) (by omega) (fun c_2 => ?_) (fun c_2 => ?_)
    · refine ok_iconst F dX7_behind_27 ?_
      refine ok_iret F G dX7_behind_28 ?_
      exact ⟨_, rfl, KeepC.rf hCI, by rw [if_neg (by omega)]⟩
    · refine ok_iload_n F dX7_behind_13 2 rfl ?_
      refine ok_bipush F dX7_behind_14 rfl ?_
      refine ok_icmp_gt F 27 dX7_behind_16 (by decide) (by omega) (by omega) (fun c_3 => ?_) (fun c_3 => ?_)
      · refine ok_iconst F dX7_behind_27 ?_
        refine ok_iret F G dX7_behind_28 ?_
        exact ⟨_, rfl, KeepC.rf hCI, by rw [if_neg (by omega)]⟩
      · refine ok_aload_n F dX7_behind_19 0 rfl ?_
        refine ok_iload_n F dX7_behind_20 3 rfl ?_
        refine ok_callv F [pI k] dX7_behind_21 kM_X7_hasKind kI_X7_hasKind kV_X7_hasKind kL_X7_106 (ci := 7) rfl sh_20 rfl (by decide) (Nat.le_of_ble_eq_true rfl) rfl (m_X7_hasKind _ k mem (by omega) (by omega)) ?_
        rintro _ _ ⟨rfl, rfl⟩
        refine ok_if_ne F 29 dX7_behind_24 (by decide) (by omega) (fun c_4 => ?_) (fun c_4 => ?_)
        · refine ok_aload_n F dX7_behind_29 0 rfl ?_
          refine ok_getr F dX7_behind_30 kF_X7_38 sh_20 rfl ?_
          refine ok_aload_n F dX7_behind_33 0 rfl ?_
          refine ok_getr F dX7_behind_34 kF_X7_10 sh_20 rfl ?_
          refine ok_getr F dX7_behind_37 kF_X7_133 sh_21 rfl ?_
          refine ok_aload_n F dX7_behind_40 0 rfl ?_
          refine ok_getr F dX7_behind_41 kF_X7_10 sh_20 rfl ?_
          refine ok_iload_n F dX7_behind_44 1 rfl ?_
          refine ok_callv F [pR 23, pR 21, pI d] dX7_behind_45 kM_X2_liveFrom kI_X2_liveFrom kV_X2_liveFrom kL_X7_149 (ci := 2) rfl sh_179 rfl (by decide) (Nat.le_of_ble_eq_true rfl) rfl (m_X2_liveFrom _ f 23 d mem (hCI) (hRS) (hG) (sh_23) (by decide) (hW) (by omega)) ?_
          rintro _ m_6 ⟨rfl, r_7⟩
          obtain ⟨l1, l2, l3, l4⟩ := id r_7
          have lL : LRepC m_6 (LF f d (tilF f)) := l3.congr (LF_congr hG hTl)
          have lB := LF_bd (d := d) (w := tilF f) hG hT
          have lP := LF_pc (f := f) (d := d) (w := tilF f)
          have lB3 := lB.2.2.1
          have hkp : KeepC mem m_6 := ⟨fun c hc => l1 c (by omega), l2⟩
          refine ok_iconst F dX7_behind_48 ?_
          refine ok_istore (lv' := [(4, pI 1), (0, pR 20), (1, pI d), (2, pI t), (3, pI k)]) F dX7_behind_49 (by decide) rfl ?_
          have hL_51 : ∀ (n_51 : Nat) (i : Int) (m : Mem), (1 ≤ i ∧ i ≤ t ∧ (∀ c, c < 179 → m c = mem c) ∧ CI m ∧ ∀ k : Nat, k < 8 → m 180 k = (againN f d (f 2).toNat (tilF f, fun _ => 0) i.toNat).1 k) → (t - i).toNat = n_51 → Ok shp X 5 51 [(0, pR 20), (1, pI d), (2, pI t), (3, pI k), (4, pI i)] [] m := by
            intro n_51
            induction n_51 using Nat.strongRecOn with
            | _ n_51 ih_51 =>
              intro i m hI_51 hn_51
              obtain ⟨hi0, hi1, hF, hC, hA⟩ := hI_51
              have hRSm : RS m 21 f := hRS.congr (fun c c1 c2 => hF c (by omega))
              have hWm : ∀ k : Nat, k < 8 → 0 ≤ m 180 k ∧ m 180 k ≤ 99 := fun k hk => by rw [hA k hk]; exact againN_bd gb0.2 hG.giv hT _ k hk
              refine ok_iload F dX7_behind_51 4 rfl ?_
              refine ok_iload_n F dX7_behind_53 2 rfl ?_
              refine ok_icmp_ge F 82 dX7_behind_54 (by decide) (by omega) (by omega) (fun c_8 => ?_) (fun c_8 => ?_)
              · refine ok_aload_n F dX7_behind_82 0 rfl ?_
                refine ok_getr F dX7_behind_83 kF_X7_38 sh_20 rfl ?_
                refine ok_getr F dX7_behind_86 kF_X7_153 sh_179 rfl ?_
                refine ok_iload_n F dX7_behind_89 3 rfl ?_
                refine ok_iald (v := m 180 k.toNat) F dX7_behind_90 sh_180 (by first | decide | assumption) (by omega) (by omega) rfl ?_
                refine ok_iret F G dX7_behind_91 ?_
                refine ⟨_, rfl, ⟨hF, hC⟩, ?_⟩
                rw [if_pos (by omega), hA k.toNat (by omega), show i = t by omega]
              · refine ok_aload_n F dX7_behind_57 0 rfl ?_
                refine ok_getr F dX7_behind_58 kF_X7_38 sh_20 rfl ?_
                refine ok_aload_n F dX7_behind_61 0 rfl ?_
                refine ok_getr F dX7_behind_62 kF_X7_38 sh_20 rfl ?_
                refine ok_getr F dX7_behind_65 kF_X7_153 sh_179 rfl ?_
                refine ok_aload_n F dX7_behind_68 0 rfl ?_
                refine ok_getr F dX7_behind_69 kF_X7_10 sh_20 rfl ?_
                refine ok_iload_n F dX7_behind_72 1 rfl ?_
                refine ok_callv F [pR 180, pR 21, pI d] dX7_behind_73 kM_X2_liveFrom kI_X2_liveFrom kV_X2_liveFrom kL_X7_149 (ci := 2) rfl sh_179 rfl (by decide) (Nat.le_of_ble_eq_true rfl) rfl (m_X2_liveFrom _ f 180 d m (hC) (hRSm) (hG) (sh_180) (by decide) (hWm) (by omega)) ?_
                rintro _ m_10 ⟨rfl, r_11⟩
                obtain ⟨n1, n2, n3, n4⟩ := id r_11
                refine ok_iinc (lv' := [(4, pI (i + 1)), (0, pR 20), (1, pI d), (2, pI t), (3, pI k)]) F dX7_behind_76 4 rfl (by decide) rfl ?_
                refine ok_goto F 51 dX7_behind_79 (by decide) ?_
                refine ok_lvp [1, 2, 3, 4, 0] (lv' := [(0, pR 20), (1, pI d), (2, pI t), (3, pI k), (4, pI (i + 1))]) rfl ?_
                refine ih_51 _ ?_ (i + 1) m_10 ?_ rfl
                · omega
                · refine ⟨by omega, by omega, fun c hc => by rw [n1 c (by omega)]; exact hF c hc, n2, fun k hk => ?_⟩
                  rw [n3.1 k hk, show (i + 1).toNat = i.toNat + 1 by omega]
                  exact (lifeN_congr gb0.2 hA _).1 k hk
          refine ok_lvp [1, 2, 3, 4, 0] (lv' := [(0, pR 20), (1, pI d), (2, pI t), (3, pI k), (4, pI 1)]) rfl ?_
          refine hL_51 _ 1 m_6 ?_ rfl
          exact ⟨by omega, by omega, hkp.1, l2, fun k hk => lL.1 k hk⟩
        · refine ok_iconst F dX7_behind_27 ?_
          refine ok_iret F G dX7_behind_28 ?_
          exact ⟨_, rfl, KeepC.rf hCI, by rw [if_neg (by omega)]⟩
theorem dX7_lasts_0 : decode cX7_lasts 0 = .ok (.aload_n 0, 1) := by decide +kernel
theorem dX7_lasts_1 : decode cX7_lasts 1 = .ok (.iload_n 1, 1) := by decide +kernel
theorem dX7_lasts_2 : decode cX7_lasts 2 = .ok (.invokevirtual 146, 3) := by decide +kernel
theorem dX7_lasts_5 : decode cX7_lasts 5 = .ok (.ifCond .ne 5, 3) := by decide +kernel
theorem dX7_lasts_8 : decode cX7_lasts 8 = .ok (.iconst (-1), 1) := by decide +kernel
theorem dX7_lasts_9 : decode cX7_lasts 9 = .ok (.ireturn, 1) := by decide +kernel
theorem dX7_lasts_10 : decode cX7_lasts 10 = .ok (.aload_n 0, 1) := by decide +kernel
theorem dX7_lasts_11 : decode cX7_lasts 11 = .ok (.getfield 38, 3) := by decide +kernel
theorem dX7_lasts_14 : decode cX7_lasts 14 = .ok (.aload_n 0, 1) := by decide +kernel
theorem dX7_lasts_15 : decode cX7_lasts 15 = .ok (.getfield 10, 3) := by decide +kernel
theorem dX7_lasts_18 : decode cX7_lasts 18 = .ok (.getfield 133, 3) := by decide +kernel
theorem dX7_lasts_21 : decode cX7_lasts 21 = .ok (.aload_n 0, 1) := by decide +kernel
theorem dX7_lasts_22 : decode cX7_lasts 22 = .ok (.getfield 10, 3) := by decide +kernel
theorem dX7_lasts_25 : decode cX7_lasts 25 = .ok (.iload_n 1, 1) := by decide +kernel
theorem dX7_lasts_26 : decode cX7_lasts 26 = .ok (.invokevirtual 149, 3) := by decide +kernel
theorem dX7_lasts_29 : decode cX7_lasts 29 = .ok (.iconst 0, 1) := by decide +kernel
theorem dX7_lasts_30 : decode cX7_lasts 30 = .ok (.istore_n 2, 1) := by decide +kernel
theorem dX7_lasts_31 : decode cX7_lasts 31 = .ok (.iload_n 2, 1) := by decide +kernel
theorem dX7_lasts_32 : decode cX7_lasts 32 = .ok (.bipush 50, 2) := by decide +kernel
theorem dX7_lasts_34 : decode cX7_lasts 34 = .ok (.if_icmp .ge 38, 3) := by decide +kernel
theorem dX7_lasts_37 : decode cX7_lasts 37 = .ok (.aload_n 0, 1) := by decide +kernel
theorem dX7_lasts_38 : decode cX7_lasts 38 = .ok (.getfield 38, 3) := by decide +kernel
theorem dX7_lasts_41 : decode cX7_lasts 41 = .ok (.getfield 158, 3) := by decide +kernel
theorem dX7_lasts_44 : decode cX7_lasts 44 = .ok (.ifCond .ne 28, 3) := by decide +kernel
theorem dX7_lasts_47 : decode cX7_lasts 47 = .ok (.iinc 2 1, 3) := by decide +kernel
theorem dX7_lasts_50 : decode cX7_lasts 50 = .ok (.aload_n 0, 1) := by decide +kernel
theorem dX7_lasts_51 : decode cX7_lasts 51 = .ok (.getfield 38, 3) := by decide +kernel
theorem dX7_lasts_54 : decode cX7_lasts 54 = .ok (.aload_n 0, 1) := by decide +kernel
theorem dX7_lasts_55 : decode cX7_lasts 55 = .ok (.getfield 38, 3) := by decide +kernel
theorem dX7_lasts_58 : decode cX7_lasts 58 = .ok (.getfield 153, 3) := by decide +kernel
theorem dX7_lasts_61 : decode cX7_lasts 61 = .ok (.aload_n 0, 1) := by decide +kernel
theorem dX7_lasts_62 : decode cX7_lasts 62 = .ok (.getfield 10, 3) := by decide +kernel
theorem dX7_lasts_65 : decode cX7_lasts 65 = .ok (.iload_n 1, 1) := by decide +kernel
theorem dX7_lasts_66 : decode cX7_lasts 66 = .ok (.invokevirtual 149, 3) := by decide +kernel
theorem dX7_lasts_69 : decode cX7_lasts 69 = .ok (.goto (-38), 3) := by decide +kernel
theorem dX7_lasts_72 : decode cX7_lasts 72 = .ok (.iload_n 2, 1) := by decide +kernel
theorem dX7_lasts_73 : decode cX7_lasts 73 = .ok (.ireturn, 1) := by decide +kernel
set_option maxHeartbeats 4000000 in
set_option maxRecDepth 100000 in
theorem m_X7_lasts (l : Launch) (f : Nat → Int) (d : Int) (mem : Mem) (hd : i32 d) (hCI : CI mem) (hRS : RS mem 21 f) (hG : GR f) : Ret shp l yX7_lasts cX7_lasts 3 (some .int) 6 [pR 20, pI d] mem (fun rv mv => ∃ z, rv = some (pI z) ∧ KeepC mem mv ∧ z = if 0 ≤ d ∧ d < f 1 then lastF f d (f 2).toNat 50 (tilF f) (fun _ => 0) else -1) := by
  refine ret_of (by decide +kernel) (Nat.le_of_ble_eq_true rfl) (fun X hX F G => ?_)
  show Ok shp X 3 0 [(0, pR 20), (1, pI d)] [] mem
  have he0 : mem 21 0 = f 0 := hRS.1
  have he1 : mem 21 1 = f 1 := hRS.2.1
  have gb0 := hG.1
  have gb1 := hG.2.1
  have gb2 := hG.2.2.1
  have hTl : ∀ k : Nat, k < 8 → mem 23 k = f (11 + k) := fun k hk => hRS.2.2.1 1 (by omega) k hk
  have hT : ∀ k : Nat, k < 8 → 0 ≤ f (11 + k) ∧ f (11 + k) ≤ 99 := fun k hk => hG.2.2.2.2.2.1 0 (by omega) k hk
  have hW : ∀ k : Nat, k < 8 → 0 ≤ mem 23 k ∧ mem 23 k ≤ 99 := fun k hk => by rw [hTl k hk]; exact hT k hk
  refine ok_aload_n F dX7_lasts_0 0 rfl ?_
  refine ok_iload_n F dX7_lasts_1 1 rfl ?_
  refine ok_callv F [pI d] dX7_lasts_2 kM_X7_hasDay kI_X7_hasDay kV_X7_hasDay kL_X7_146 (ci := 7) rfl sh_20 rfl (by decide) (Nat.le_of_ble_eq_true rfl) rfl (m_X7_hasDay _ d mem (by omega) (by omega)) ?_
  rintro _ _ ⟨rfl, rfl⟩
  refine ok_if_ne F 10 dX7_lasts_5 (by decide) (by omega) (fun c_1 => ?_) (fun c_1 => ?_)
  · refine ok_aload_n F dX7_lasts_10 0 rfl ?_
    refine ok_getr F dX7_lasts_11 kF_X7_38 sh_20 rfl ?_
    refine ok_aload_n F dX7_lasts_14 0 rfl ?_
    refine ok_getr F dX7_lasts_15 kF_X7_10 sh_20 rfl ?_
    refine ok_getr F dX7_lasts_18 kF_X7_133 sh_21 rfl ?_
    refine ok_aload_n F dX7_lasts_21 0 rfl ?_
    refine ok_getr F dX7_lasts_22 kF_X7_10 sh_20 rfl ?_
    refine ok_iload_n F dX7_lasts_25 1 rfl ?_
    refine ok_callv F [pR 23, pR 21, pI d] dX7_lasts_26 kM_X2_liveFrom kI_X2_liveFrom kV_X2_liveFrom kL_X7_149 (ci := 2) rfl sh_179 rfl (by decide) (Nat.le_of_ble_eq_true rfl) rfl (m_X2_liveFrom _ f 23 d mem (hCI) (hRS) (hG) (sh_23) (by decide) (hW) (by omega)) ?_
    rintro _ m_3 ⟨rfl, r_4⟩
    obtain ⟨l1, l2, l3, l4⟩ := id r_4
    have lL : LRepC m_3 (LF f d (tilF f)) := l3.congr (LF_congr hG hTl)
    have lB := LF_bd (d := d) (w := tilF f) hG hT
    have lP := LF_pc (f := f) (d := d) (w := tilF f)
    have lB3 := lB.2.2.1
    have hkp : KeepC mem m_3 := ⟨fun c hc => l1 c (by omega), l2⟩
    refine ok_iconst F dX7_lasts_29 ?_
    refine ok_istore_n (lv' := [(2, pI 0), (0, pR 20), (1, pI d)]) F dX7_lasts_30 (by decide) rfl ?_
    have hL_31 : ∀ (n_31 : Nat) (t : Int) (m : Mem), (0 ≤ t ∧ t ≤ 50 ∧ (∀ c, c < 179 → m c = mem c) ∧ CI m ∧ ∃ w, (∀ k : Nat, k < 8 → 0 ≤ w k ∧ w k ≤ 99) ∧ LRepC m (LF f d w) ∧ lastF f d (f 2).toNat 50 (tilF f) (fun _ => 0) = t + lastF f d (f 2).toNat (50 - t).toNat w (fun _ => 0)) → (50 - t).toNat = n_31 → Ok shp X 3 31 [(0, pR 20), (1, pI d), (2, pI t)] [] m := by
      intro n_31
      induction n_31 using Nat.strongRecOn with
      | _ n_31 ih_31 =>
        intro t m hI_31 hn_31
        obtain ⟨hi0, hi1, hF, hC, w, hw, hR, hA⟩ := hI_31
        have hRSm : RS m 21 f := hRS.congr (fun c c1 c2 => hF c (by omega))
        have hb := LF_bd (d := d) hG hw
        have hb3 := hb.2.2.1
        have h33 : m 179 3 = _ := hR.2.2.1
        have hWm : ∀ k : Nat, k < 8 → 0 ≤ m 180 k ∧ m 180 k ≤ 99 := fun k hk => by rw [hR.1 k hk]; exact hb.1 k hk
        refine ok_iload_n F dX7_lasts_31 2 rfl ?_
        refine ok_bipush F dX7_lasts_32 rfl ?_
        refine ok_icmp_ge F 72 dX7_lasts_34 (by decide) (by omega) (by omega) (fun c_5 => ?_) (fun c_5 => ?_)
        · refine ok_iload_n F dX7_lasts_72 2 rfl ?_
          refine ok_iret F G dX7_lasts_73 ?_
          refine ⟨_, rfl, ⟨hF, hC⟩, ?_⟩
          rw [if_pos (by omega), hA]
          first
            | (rw [show (50 - t).toNat = 0 by omega, lastF, Int.add_zero]; done)
            | (rw [show (50 - t).toNat = (50 - (t + 1)).toNat + 1 by omega, lastF_s, if_neg (show ¬ (lifeN f d (life0 w fun _ => 0) (f 2).toNat).2.2.1 = 0 from fun q => by have q2 : m 179 3 = 0 := h33.trans q; omega), Int.add_zero]; done)
        · refine ok_aload_n F dX7_lasts_37 0 rfl ?_
          refine ok_getr F dX7_lasts_38 kF_X7_38 sh_20 rfl ?_
          refine ok_getf (v := m 179 3) F dX7_lasts_41 kF_X7_158 sh_179 rfl rfl ?_
          refine ok_if_ne F 72 dX7_lasts_44 (by decide) (by omega) (fun c_6 => ?_) (fun c_6 => ?_)
          · refine ok_iload_n F dX7_lasts_72 2 rfl ?_
            refine ok_iret F G dX7_lasts_73 ?_
            refine ⟨_, rfl, ⟨hF, hC⟩, ?_⟩
            rw [if_pos (by omega), hA]
            first
              | (rw [show (50 - t).toNat = 0 by omega, lastF, Int.add_zero]; done)
              | (rw [show (50 - t).toNat = (50 - (t + 1)).toNat + 1 by omega, lastF_s, if_neg (show ¬ (lifeN f d (life0 w fun _ => 0) (f 2).toNat).2.2.1 = 0 from fun q => by have q2 : m 179 3 = 0 := h33.trans q; omega), Int.add_zero]; done)
          · refine ok_iinc (lv' := [(2, pI (t + 1)), (0, pR 20), (1, pI d)]) F dX7_lasts_47 2 rfl (by decide) rfl ?_
            refine ok_aload_n F dX7_lasts_50 1 rfl ?_
            refine ok_getr F dX7_lasts_51 kF_X7_38 sh_20 rfl ?_
            refine ok_aload_n F dX7_lasts_54 1 rfl ?_
            refine ok_getr F dX7_lasts_55 kF_X7_38 sh_20 rfl ?_
            refine ok_getr F dX7_lasts_58 kF_X7_153 sh_179 rfl ?_
            refine ok_aload_n F dX7_lasts_61 1 rfl ?_
            refine ok_getr F dX7_lasts_62 kF_X7_10 sh_20 rfl ?_
            refine ok_iload_n F dX7_lasts_65 2 rfl ?_
            refine ok_callv F [pR 180, pR 21, pI d] dX7_lasts_66 kM_X2_liveFrom kI_X2_liveFrom kV_X2_liveFrom kL_X7_149 (ci := 2) rfl sh_179 rfl (by decide) (Nat.le_of_ble_eq_true rfl) rfl (m_X2_liveFrom _ f 180 d m (hC) (hRSm) (hG) (sh_180) (by decide) (hWm) (by omega)) ?_
            rintro _ m_8 ⟨rfl, r_9⟩
            obtain ⟨n1, n2, n3, n4⟩ := id r_9
            refine ok_goto F 31 dX7_lasts_69 (by decide) ?_
            refine ok_lvp [1, 2, 0] (lv' := [(0, pR 20), (1, pI d), (2, pI (t + 1))]) rfl ?_
            refine ih_31 _ ?_ (t + 1) m_8 ?_ rfl
            · omega
            · refine ⟨by omega, by omega, fun c hc => by rw [n1 c (by omega)]; exact hF c hc, n2, (LF f d w).1, hb.1, n3.congr (LF_congr hG hR.1), ?_⟩
              rw [hA, show (50 - t).toNat = (50 - (t + 1)).toNat + 1 by omega, lastF_s, if_pos (show (lifeN f d (life0 w fun _ => 0) (f 2).toNat).2.2.1 = 0 from h33.symm.trans (by omega)), last_congr gb0.2 (low := (lifeN f d (life0 w fun _ => 0) (f 2).toNat).2.1) (low' := fun _ => 0) _ (fun _ _ => rfl), ← Int.add_assoc]
              rfl
    refine ok_lvp [1, 2, 0] (lv' := [(0, pR 20), (1, pI d), (2, pI 0)]) rfl ?_
    refine hL_31 _ 0 m_3 ?_ rfl
    exact ⟨by omega, by omega, hkp.1, l2, tilF f, hT, lL, by rw [Int.zero_add]; rfl⟩
  · refine ok_iconst F dX7_lasts_8 ?_
    refine ok_iret F G dX7_lasts_9 ?_
    exact ⟨_, rfl, KeepC.rf hCI, by rw [if_neg (by omega)]⟩
theorem dX7_worst_0 : decode cX7_worst 0 = .ok (.iload_n 1, 1) := by decide +kernel
theorem dX7_worst_1 : decode cX7_worst 1 = .ok (.ifCond .lt 8, 3) := by decide +kernel
theorem dX7_worst_4 : decode cX7_worst 4 = .ok (.iload_n 1, 1) := by decide +kernel
theorem dX7_worst_5 : decode cX7_worst 5 = .ok (.iconst 2, 1) := by decide +kernel
theorem dX7_worst_6 : decode cX7_worst 6 = .ok (.if_icmp .le 5, 3) := by decide +kernel
theorem dX7_worst_9 : decode cX7_worst 9 = .ok (.iconst (-1), 1) := by decide +kernel
theorem dX7_worst_10 : decode cX7_worst 10 = .ok (.ireturn, 1) := by decide +kernel
theorem dX7_worst_11 : decode cX7_worst 11 = .ok (.bipush (-2), 2) := by decide +kernel
theorem dX7_worst_13 : decode cX7_worst 13 = .ok (.istore_n 2, 1) := by decide +kernel
theorem dX7_worst_14 : decode cX7_worst 14 = .ok (.bipush (-2), 2) := by decide +kernel
theorem dX7_worst_16 : decode cX7_worst 16 = .ok (.istore_n 3, 1) := by decide +kernel
theorem dX7_worst_17 : decode cX7_worst 17 = .ok (.bipush (-2), 2) := by decide +kernel
theorem dX7_worst_19 : decode cX7_worst 19 = .ok (.istore 4, 2) := by decide +kernel
theorem dX7_worst_21 : decode cX7_worst 21 = .ok (.iconst 0, 1) := by decide +kernel
theorem dX7_worst_22 : decode cX7_worst 22 = .ok (.istore 5, 2) := by decide +kernel
theorem dX7_worst_24 : decode cX7_worst 24 = .ok (.iload 5, 2) := by decide +kernel
theorem dX7_worst_26 : decode cX7_worst 26 = .ok (.aload_n 0, 1) := by decide +kernel
theorem dX7_worst_27 : decode cX7_worst 27 = .ok (.getfield 10, 3) := by decide +kernel
theorem dX7_worst_30 : decode cX7_worst 30 = .ok (.getfield 176, 3) := by decide +kernel
theorem dX7_worst_33 : decode cX7_worst 33 = .ok (.if_icmp .ge 83, 3) := by decide +kernel
theorem dX7_worst_36 : decode cX7_worst 36 = .ok (.aload_n 0, 1) := by decide +kernel
theorem dX7_worst_37 : decode cX7_worst 37 = .ok (.getfield 38, 3) := by decide +kernel
theorem dX7_worst_40 : decode cX7_worst 40 = .ok (.aload_n 0, 1) := by decide +kernel
theorem dX7_worst_41 : decode cX7_worst 41 = .ok (.getfield 10, 3) := by decide +kernel
theorem dX7_worst_44 : decode cX7_worst 44 = .ok (.getfield 133, 3) := by decide +kernel
theorem dX7_worst_47 : decode cX7_worst 47 = .ok (.aload_n 0, 1) := by decide +kernel
theorem dX7_worst_48 : decode cX7_worst 48 = .ok (.getfield 10, 3) := by decide +kernel
theorem dX7_worst_51 : decode cX7_worst 51 = .ok (.iload 5, 2) := by decide +kernel
theorem dX7_worst_53 : decode cX7_worst 53 = .ok (.invokevirtual 149, 3) := by decide +kernel
theorem dX7_worst_56 : decode cX7_worst 56 = .ok (.aload_n 0, 1) := by decide +kernel
theorem dX7_worst_57 : decode cX7_worst 57 = .ok (.getfield 38, 3) := by decide +kernel
theorem dX7_worst_60 : decode cX7_worst 60 = .ok (.getfield 158, 3) := by decide +kernel
theorem dX7_worst_63 : decode cX7_worst 63 = .ok (.iload_n 3, 1) := by decide +kernel
theorem dX7_worst_64 : decode cX7_worst 64 = .ok (.if_icmp .gt 26, 3) := by decide +kernel
theorem dX7_worst_67 : decode cX7_worst 67 = .ok (.aload_n 0, 1) := by decide +kernel
theorem dX7_worst_68 : decode cX7_worst 68 = .ok (.getfield 38, 3) := by decide +kernel
theorem dX7_worst_71 : decode cX7_worst 71 = .ok (.getfield 158, 3) := by decide +kernel
theorem dX7_worst_74 : decode cX7_worst 74 = .ok (.iload_n 3, 1) := by decide +kernel
theorem dX7_worst_75 : decode cX7_worst 75 = .ok (.if_icmp .ne 35, 3) := by decide +kernel
theorem dX7_worst_78 : decode cX7_worst 78 = .ok (.aload_n 0, 1) := by decide +kernel
theorem dX7_worst_79 : decode cX7_worst 79 = .ok (.getfield 38, 3) := by decide +kernel
theorem dX7_worst_82 : decode cX7_worst 82 = .ok (.getfield 290, 3) := by decide +kernel
theorem dX7_worst_85 : decode cX7_worst 85 = .ok (.iload 4, 2) := by decide +kernel
theorem dX7_worst_87 : decode cX7_worst 87 = .ok (.if_icmp .le 23, 3) := by decide +kernel
theorem dX7_worst_90 : decode cX7_worst 90 = .ok (.iload 5, 2) := by decide +kernel
theorem dX7_worst_92 : decode cX7_worst 92 = .ok (.istore_n 2, 1) := by decide +kernel
theorem dX7_worst_93 : decode cX7_worst 93 = .ok (.aload_n 0, 1) := by decide +kernel
theorem dX7_worst_94 : decode cX7_worst 94 = .ok (.getfield 38, 3) := by decide +kernel
theorem dX7_worst_97 : decode cX7_worst 97 = .ok (.getfield 158, 3) := by decide +kernel
theorem dX7_worst_100 : decode cX7_worst 100 = .ok (.istore_n 3, 1) := by decide +kernel
theorem dX7_worst_101 : decode cX7_worst 101 = .ok (.aload_n 0, 1) := by decide +kernel
theorem dX7_worst_102 : decode cX7_worst 102 = .ok (.getfield 38, 3) := by decide +kernel
theorem dX7_worst_105 : decode cX7_worst 105 = .ok (.getfield 290, 3) := by decide +kernel
theorem dX7_worst_108 : decode cX7_worst 108 = .ok (.istore 4, 2) := by decide +kernel
theorem dX7_worst_110 : decode cX7_worst 110 = .ok (.iinc 5 1, 3) := by decide +kernel
theorem dX7_worst_113 : decode cX7_worst 113 = .ok (.goto (-89), 3) := by decide +kernel
theorem dX7_worst_116 : decode cX7_worst 116 = .ok (.iload_n 1, 1) := by decide +kernel
theorem dX7_worst_117 : decode cX7_worst 117 = .ok (.ifCond .ne 7, 3) := by decide +kernel
theorem dX7_worst_120 : decode cX7_worst 120 = .ok (.iload_n 2, 1) := by decide +kernel
theorem dX7_worst_121 : decode cX7_worst 121 = .ok (.goto 14, 3) := by decide +kernel
theorem dX7_worst_124 : decode cX7_worst 124 = .ok (.iload_n 1, 1) := by decide +kernel
theorem dX7_worst_125 : decode cX7_worst 125 = .ok (.iconst 1, 1) := by decide +kernel
theorem dX7_worst_126 : decode cX7_worst 126 = .ok (.if_icmp .ne 7, 3) := by decide +kernel
theorem dX7_worst_129 : decode cX7_worst 129 = .ok (.iload_n 3, 1) := by decide +kernel
theorem dX7_worst_130 : decode cX7_worst 130 = .ok (.goto 5, 3) := by decide +kernel
theorem dX7_worst_133 : decode cX7_worst 133 = .ok (.iload 4, 2) := by decide +kernel
theorem dX7_worst_135 : decode cX7_worst 135 = .ok (.ireturn, 1) := by decide +kernel
set_option maxHeartbeats 4000000 in
set_option maxRecDepth 100000 in
theorem m_X7_worst (l : Launch) (f : Nat → Int) (w : Int) (mem : Mem) (hw : i32 w) (hCI : CI mem) (hRS : RS mem 21 f) (hG : GR f) : Ret shp l yX7_worst cX7_worst 6 (some .int) 6 [pR 20, pI w] mem (fun rv mv => ∃ z, rv = some (pI z) ∧ KeepC mem mv ∧ z = if 0 ≤ w ∧ w ≤ 2 then (if w = 0 then (worC f (f 1).toNat).1 else if w = 1 then (worC f (f 1).toNat).2.1 else (worC f (f 1).toNat).2.2) else -1) := by
  refine ret_of (by decide +kernel) (Nat.le_of_ble_eq_true rfl) (fun X hX F G => ?_)
  show Ok shp X 6 0 [(0, pR 20), (1, pI w)] [] mem
  have he0 : mem 21 0 = f 0 := hRS.1
  have he1 : mem 21 1 = f 1 := hRS.2.1
  have gb0 := hG.1
  have gb1 := hG.2.1
  have gb2 := hG.2.2.1
  have hTl : ∀ k : Nat, k < 8 → mem 23 k = f (11 + k) := fun k hk => hRS.2.2.1 1 (by omega) k hk
  have hT : ∀ k : Nat, k < 8 → 0 ≤ f (11 + k) ∧ f (11 + k) ≤ 99 := fun k hk => hG.2.2.2.2.2.1 0 (by omega) k hk
  have hW : ∀ k : Nat, k < 8 → 0 ≤ mem 23 k ∧ mem 23 k ≤ 99 := fun k hk => by rw [hTl k hk]; exact hT k hk
  refine ok_iload_n F dX7_worst_0 1 rfl ?_
  refine ok_if_lt F 9 dX7_worst_1 (by decide) (by omega) (fun c_1 => ?_) (fun c_1 => ?_)
  · refine ok_iconst F dX7_worst_9 ?_
    refine ok_iret F G dX7_worst_10 ?_
    exact ⟨_, rfl, KeepC.rf hCI, by rw [if_neg (by omega)]⟩
  · refine ok_iload_n F dX7_worst_4 1 rfl ?_
    refine ok_iconst F dX7_worst_5 ?_
    refine ok_icmp_le F 11 dX7_worst_6 (by decide) (by omega) (by omega) (fun c_2 => ?_) (fun c_2 => ?_)
    · refine ok_bipush F dX7_worst_11 rfl ?_
      refine ok_istore_n (lv' := [(2, pI (-2)), (0, pR 20), (1, pI w)]) F dX7_worst_13 (by decide) rfl ?_
      refine ok_bipush F dX7_worst_14 rfl ?_
      refine ok_istore_n (lv' := [(3, pI (-2)), (2, pI (-2)), (0, pR 20), (1, pI w)]) F dX7_worst_16 (by decide) rfl ?_
      refine ok_bipush F dX7_worst_17 rfl ?_
      refine ok_istore (lv' := [(4, pI (-2)), (3, pI (-2)), (2, pI (-2)), (0, pR 20), (1, pI w)]) F dX7_worst_19 (by decide) rfl ?_
      refine ok_iconst F dX7_worst_21 ?_
      refine ok_istore (lv' := [(5, pI 0), (4, pI (-2)), (3, pI (-2)), (2, pI (-2)), (0, pR 20), (1, pI w)]) F dX7_worst_22 (by decide) rfl ?_
      have hL_24 : ∀ (n_24 : Nat) (b : Int) (s : Int) (p : Int) (k : Int) (m : Mem), (0 ≤ k ∧ k ≤ f 1 ∧ (∀ c, c < 179 → m c = mem c) ∧ CI m ∧ (b = (worC f k.toNat).1 ∧ s = (worC f k.toNat).2.1 ∧ p = (worC f k.toNat).2.2) ∧ (-2 ≤ b ∧ b ≤ 5) ∧ (-2 ≤ s ∧ s ≤ 40) ∧ -2 ≤ p ∧ p ≤ 40000000) → (f 1 - k).toNat = n_24 → Ok shp X 6 24 [(0, pR 20), (1, pI w), (2, pI b), (3, pI s), (4, pI p), (5, pI k)] [] m := by
        intro n_24
        induction n_24 using Nat.strongRecOn with
        | _ n_24 ih_24 =>
          intro b s p k m hI_24 hn_24
          obtain ⟨hi0, hi1, hF, hC, ⟨hb, hs, hp⟩, hbb, hsb, hpb⟩ := hI_24
          have hRSm : RS m 21 f := hRS.congr (fun c c1 c2 => hF c (by omega))
          have hWm : ∀ k : Nat, k < 8 → 0 ≤ m 23 k ∧ m 23 k ≤ 99 := fun k hk => by rw [hF 23 (by decide)]; exact hW k hk
          refine ok_iload F dX7_worst_24 5 rfl ?_
          refine ok_aload_n F dX7_worst_26 0 rfl ?_
          refine ok_getr F dX7_worst_27 kF_X7_10 sh_20 rfl ?_
          refine ok_getf (v := mem 21 1) F dX7_worst_30 kF_X7_176 sh_21 rfl (by rw [(hF 21 (by decide))] <;> rfl) ?_
          refine ok_icmp_ge F 116 dX7_worst_33 (by decide) (by omega) (by omega) (fun c_3 => ?_) (fun c_3 => ?_)
          · refine ok_iload_n F dX7_worst_116 1 rfl ?_
            refine ok_if_ne F 124 dX7_worst_117 (by decide) (by omega) (fun c_4 => ?_) (fun c_4 => ?_)
            · refine ok_iload_n F dX7_worst_124 1 rfl ?_
              refine ok_iconst F dX7_worst_125 ?_
              refine ok_icmp_ne F 133 dX7_worst_126 (by decide) (by omega) (by omega) (fun c_5 => ?_) (fun c_5 => ?_)
              · refine ok_iload F dX7_worst_133 4 rfl ?_
                refine ok_iret F G dX7_worst_135 ?_
                refine ⟨_, rfl, ⟨hF, hC⟩, ?_⟩
                have ek : f 1 = k := by omega
                rw [if_pos (by omega), ek, ← hb, ← hs, ← hp]
                first | (rw [if_pos (by omega)]; done) | (rw [if_neg (by omega), if_pos (by omega)]; done) | (rw [if_neg (by omega), if_neg (by omega)]; done)
              · refine ok_iload_n F dX7_worst_129 3 rfl ?_
                refine ok_goto F 135 dX7_worst_130 (by decide) ?_
                refine ok_iret F G dX7_worst_135 ?_
                refine ⟨_, rfl, ⟨hF, hC⟩, ?_⟩
                have ek : f 1 = k := by omega
                rw [if_pos (by omega), ek, ← hb, ← hs, ← hp]
                first | (rw [if_pos (by omega)]; done) | (rw [if_neg (by omega), if_pos (by omega)]; done) | (rw [if_neg (by omega), if_neg (by omega)]; done)
            · refine ok_iload_n F dX7_worst_120 2 rfl ?_
              refine ok_goto F 135 dX7_worst_121 (by decide) ?_
              refine ok_iret F G dX7_worst_135 ?_
              refine ⟨_, rfl, ⟨hF, hC⟩, ?_⟩
              have ek : f 1 = k := by omega
              rw [if_pos (by omega), ek, ← hb, ← hs, ← hp]
              first | (rw [if_pos (by omega)]; done) | (rw [if_neg (by omega), if_pos (by omega)]; done) | (rw [if_neg (by omega), if_neg (by omega)]; done)
          · refine ok_aload_n F dX7_worst_36 0 rfl ?_
            refine ok_getr F dX7_worst_37 kF_X7_38 sh_20 rfl ?_
            refine ok_aload_n F dX7_worst_40 0 rfl ?_
            refine ok_getr F dX7_worst_41 kF_X7_10 sh_20 rfl ?_
            refine ok_getr F dX7_worst_44 kF_X7_133 sh_21 rfl ?_
            refine ok_aload_n F dX7_worst_47 0 rfl ?_
            refine ok_getr F dX7_worst_48 kF_X7_10 sh_20 rfl ?_
            refine ok_iload F dX7_worst_51 5 rfl ?_
            refine ok_callv F [pR 23, pR 21, pI k] dX7_worst_53 kM_X2_liveFrom kI_X2_liveFrom kV_X2_liveFrom kL_X7_149 (ci := 2) rfl sh_179 rfl (by decide) (Nat.le_of_ble_eq_true rfl) rfl (m_X2_liveFrom _ f 23 k m (hC) (hRSm) (hG) (sh_23) (by decide) (hWm) (by omega)) ?_
            rintro _ m_7 ⟨rfl, r_8⟩
            obtain ⟨l1, l2, l3, l4⟩ := id r_8
            have lL : LRepC m_7 (LF f k (tilF f)) := l3.congr (LF_congr hG (fun k hk => by rw [hF 23 (by decide)]; exact hTl k hk))
            have lB := LF_bd (d := k) (w := tilF f) hG hT
            have lP := LF_pc (f := f) (d := k) (w := tilF f)
            have lB3 := lB.2.2.1
            have h33 : m_7 179 3 = _ := lL.2.2.1
            have h34 : m_7 179 4 = _ := lL.2.2.2.1
            refine ok_aload_n F dX7_worst_56 0 rfl ?_
            refine ok_getr F dX7_worst_57 kF_X7_38 sh_20 rfl ?_
            refine ok_getf (v := m_7 179 3) F dX7_worst_60 kF_X7_158 sh_179 rfl rfl ?_
            refine ok_iload_n F dX7_worst_63 3 rfl ?_
            refine ok_icmp_gt F 90 dX7_worst_64 (by decide) (by omega) (by omega) (fun c_9 => ?_) (fun c_9 => ?_)
            · refine ok_iload F dX7_worst_90 5 rfl ?_
              refine ok_istore_n (lv' := [(2, pI k), (0, pR 20), (1, pI w), (3, pI s), (4, pI p), (5, pI k)]) F dX7_worst_92 (by decide) rfl ?_
              refine ok_aload_n F dX7_worst_93 1 rfl ?_
              refine ok_getr F dX7_worst_94 kF_X7_38 sh_20 rfl ?_
              refine ok_getf (v := m_7 179 3) F dX7_worst_97 kF_X7_158 sh_179 rfl rfl ?_
              refine ok_istore_n (lv' := [(3, pI (m_7 179 3)), (2, pI k), (0, pR 20), (1, pI w), (4, pI p), (5, pI k)]) F dX7_worst_100 (by decide) rfl ?_
              refine ok_aload_n F dX7_worst_101 2 rfl ?_
              refine ok_getr F dX7_worst_102 kF_X7_38 sh_20 rfl ?_
              refine ok_getf (v := m_7 179 4) F dX7_worst_105 kF_X7_290 sh_179 rfl rfl ?_
              refine ok_istore (lv' := [(4, pI (m_7 179 4)), (3, pI (m_7 179 3)), (2, pI k), (0, pR 20), (1, pI w), (5, pI k)]) F dX7_worst_108 (by decide) rfl ?_
              refine ok_iinc (lv' := [(5, pI (k + 1)), (4, pI (m_7 179 4)), (3, pI (m_7 179 3)), (2, pI k), (0, pR 20), (1, pI w)]) F dX7_worst_110 5 rfl (by decide) rfl ?_
              refine ok_goto F 24 dX7_worst_113 (by decide) ?_
              refine ok_lvp [4, 5, 3, 2, 1, 0] (lv' := [(0, pR 20), (1, pI w), (2, pI k), (3, pI (m_7 179 3)), (4, pI (m_7 179 4)), (5, pI (k + 1))]) rfl ?_
              refine ih_24 _ ?_ k (m_7 179 3) (m_7 179 4) (k + 1) m_7 ?_ rfl
              · omega
              · refine ⟨by omega, by omega, fun c hc => by rw [l1 c (by omega)]; exact hF c hc, l2, ?_, by omega, by omega, by omega⟩
                rw [worC_s f hi0]
                first
                  | (rw [if_neg (by omega)]; exact ⟨hb, hs, hp⟩)
                  | (rw [if_pos (by omega)]; exact ⟨rfl, h33, h34⟩)
            · refine ok_aload_n F dX7_worst_67 0 rfl ?_
              refine ok_getr F dX7_worst_68 kF_X7_38 sh_20 rfl ?_
              refine ok_getf (v := m_7 179 3) F dX7_worst_71 kF_X7_158 sh_179 rfl rfl ?_
              refine ok_iload_n F dX7_worst_74 3 rfl ?_
              refine ok_icmp_ne F 110 dX7_worst_75 (by decide) (by omega) (by omega) (fun c_10 => ?_) (fun c_10 => ?_)
              · refine ok_iinc (lv' := [(5, pI (k + 1)), (0, pR 20), (1, pI w), (2, pI b), (3, pI s), (4, pI p)]) F dX7_worst_110 5 rfl (by decide) rfl ?_
                refine ok_goto F 24 dX7_worst_113 (by decide) ?_
                refine ok_lvp [1, 2, 3, 4, 5, 0] (lv' := [(0, pR 20), (1, pI w), (2, pI b), (3, pI s), (4, pI p), (5, pI (k + 1))]) rfl ?_
                refine ih_24 _ ?_ b s p (k + 1) m_7 ?_ rfl
                · omega
                · refine ⟨by omega, by omega, fun c hc => by rw [l1 c (by omega)]; exact hF c hc, l2, ?_, by omega, by omega, by omega⟩
                  rw [worC_s f hi0]
                  first
                    | (rw [if_neg (by omega)]; exact ⟨hb, hs, hp⟩)
                    | (rw [if_pos (by omega)]; exact ⟨rfl, h33, h34⟩)
              · refine ok_aload_n F dX7_worst_78 0 rfl ?_
                refine ok_getr F dX7_worst_79 kF_X7_38 sh_20 rfl ?_
                refine ok_getf (v := m_7 179 4) F dX7_worst_82 kF_X7_290 sh_179 rfl rfl ?_
                refine ok_iload F dX7_worst_85 4 rfl ?_
                refine ok_icmp_le F 110 dX7_worst_87 (by decide) (by omega) (by omega) (fun c_11 => ?_) (fun c_11 => ?_)
                · refine ok_iinc (lv' := [(5, pI (k + 1)), (0, pR 20), (1, pI w), (2, pI b), (3, pI s), (4, pI p)]) F dX7_worst_110 5 rfl (by decide) rfl ?_
                  refine ok_goto F 24 dX7_worst_113 (by decide) ?_
                  refine ok_lvp [1, 2, 3, 4, 5, 0] (lv' := [(0, pR 20), (1, pI w), (2, pI b), (3, pI s), (4, pI p), (5, pI (k + 1))]) rfl ?_
                  refine ih_24 _ ?_ b s p (k + 1) m_7 ?_ rfl
                  · omega
                  · refine ⟨by omega, by omega, fun c hc => by rw [l1 c (by omega)]; exact hF c hc, l2, ?_, by omega, by omega, by omega⟩
                    rw [worC_s f hi0]
                    first
                      | (rw [if_neg (by omega)]; exact ⟨hb, hs, hp⟩)
                      | (rw [if_pos (by omega)]; exact ⟨rfl, h33, h34⟩)
                · refine ok_iload F dX7_worst_90 5 rfl ?_
                  refine ok_istore_n (lv' := [(2, pI k), (0, pR 20), (1, pI w), (3, pI s), (4, pI p), (5, pI k)]) F dX7_worst_92 (by decide) rfl ?_
                  refine ok_aload_n F dX7_worst_93 1 rfl ?_
                  refine ok_getr F dX7_worst_94 kF_X7_38 sh_20 rfl ?_
                  refine ok_getf (v := m_7 179 3) F dX7_worst_97 kF_X7_158 sh_179 rfl rfl ?_
                  refine ok_istore_n (lv' := [(3, pI (m_7 179 3)), (2, pI k), (0, pR 20), (1, pI w), (4, pI p), (5, pI k)]) F dX7_worst_100 (by decide) rfl ?_
                  refine ok_aload_n F dX7_worst_101 2 rfl ?_
                  refine ok_getr F dX7_worst_102 kF_X7_38 sh_20 rfl ?_
                  refine ok_getf (v := m_7 179 4) F dX7_worst_105 kF_X7_290 sh_179 rfl rfl ?_
                  refine ok_istore (lv' := [(4, pI (m_7 179 4)), (3, pI (m_7 179 3)), (2, pI k), (0, pR 20), (1, pI w), (5, pI k)]) F dX7_worst_108 (by decide) rfl ?_
                  refine ok_iinc (lv' := [(5, pI (k + 1)), (4, pI (m_7 179 4)), (3, pI (m_7 179 3)), (2, pI k), (0, pR 20), (1, pI w)]) F dX7_worst_110 5 rfl (by decide) rfl ?_
                  refine ok_goto F 24 dX7_worst_113 (by decide) ?_
                  refine ok_lvp [4, 5, 3, 2, 1, 0] (lv' := [(0, pR 20), (1, pI w), (2, pI k), (3, pI (m_7 179 3)), (4, pI (m_7 179 4)), (5, pI (k + 1))]) rfl ?_
                  refine ih_24 _ ?_ k (m_7 179 3) (m_7 179 4) (k + 1) m_7 ?_ rfl
                  · omega
                  · refine ⟨by omega, by omega, fun c hc => by rw [l1 c (by omega)]; exact hF c hc, l2, ?_, by omega, by omega, by omega⟩
                    rw [worC_s f hi0]
                    first
                      | (rw [if_neg (by omega)]; exact ⟨hb, hs, hp⟩)
                      | (rw [if_pos (by omega)]; exact ⟨rfl, h33, h34⟩)
      refine ok_lvp [4, 5, 3, 2, 1, 0] (lv' := [(0, pR 20), (1, pI w), (2, pI (-2)), (3, pI (-2)), (4, pI (-2)), (5, pI 0)]) rfl ?_
      refine hL_24 _ (-2) (-2) (-2) 0 mem ?_ rfl
      exact ⟨by omega, by omega, fun _ _ => rfl, hCI, ⟨rfl, rfl, rfl⟩, by omega, by omega, by omega⟩
    · refine ok_iconst F dX7_worst_9 ?_
      refine ok_iret F G dX7_worst_10 ?_
      exact ⟨_, rfl, KeepC.rf hCI, by rw [if_neg (by omega)]⟩
theorem dX7_flow_0 : decode cX7_flow 0 = .ok (.aload_n 0, 1) := by decide +kernel
theorem dX7_flow_1 : decode cX7_flow 1 = .ok (.iload_n 1, 1) := by decide +kernel
theorem dX7_flow_2 : decode cX7_flow 2 = .ok (.invokevirtual 146, 3) := by decide +kernel
theorem dX7_flow_5 : decode cX7_flow 5 = .ok (.ifCond .eq 11, 3) := by decide +kernel
theorem dX7_flow_8 : decode cX7_flow 8 = .ok (.aload_n 0, 1) := by decide +kernel
theorem dX7_flow_9 : decode cX7_flow 9 = .ok (.iload_n 2, 1) := by decide +kernel
theorem dX7_flow_10 : decode cX7_flow 10 = .ok (.invokevirtual 106, 3) := by decide +kernel
theorem dX7_flow_13 : decode cX7_flow 13 = .ok (.ifCond .ne 5, 3) := by decide +kernel
theorem dX7_flow_16 : decode cX7_flow 16 = .ok (.iconst (-1), 1) := by decide +kernel
theorem dX7_flow_17 : decode cX7_flow 17 = .ok (.ireturn, 1) := by decide +kernel
theorem dX7_flow_18 : decode cX7_flow 18 = .ok (.aload_n 0, 1) := by decide +kernel
theorem dX7_flow_19 : decode cX7_flow 19 = .ok (.getfield 38, 3) := by decide +kernel
theorem dX7_flow_22 : decode cX7_flow 22 = .ok (.aload_n 0, 1) := by decide +kernel
theorem dX7_flow_23 : decode cX7_flow 23 = .ok (.getfield 10, 3) := by decide +kernel
theorem dX7_flow_26 : decode cX7_flow 26 = .ok (.getfield 133, 3) := by decide +kernel
theorem dX7_flow_29 : decode cX7_flow 29 = .ok (.aload_n 0, 1) := by decide +kernel
theorem dX7_flow_30 : decode cX7_flow 30 = .ok (.getfield 10, 3) := by decide +kernel
theorem dX7_flow_33 : decode cX7_flow 33 = .ok (.iload_n 1, 1) := by decide +kernel
theorem dX7_flow_34 : decode cX7_flow 34 = .ok (.invokevirtual 149, 3) := by decide +kernel
theorem dX7_flow_37 : decode cX7_flow 37 = .ok (.aload_n 0, 1) := by decide +kernel
theorem dX7_flow_38 : decode cX7_flow 38 = .ok (.getfield 38, 3) := by decide +kernel
theorem dX7_flow_41 : decode cX7_flow 41 = .ok (.getfield 299, 3) := by decide +kernel
theorem dX7_flow_44 : decode cX7_flow 44 = .ok (.iload_n 2, 1) := by decide +kernel
theorem dX7_flow_45 : decode cX7_flow 45 = .ok (.iaload, 1) := by decide +kernel
theorem dX7_flow_46 : decode cX7_flow 46 = .ok (.ireturn, 1) := by decide +kernel
set_option maxHeartbeats 4000000 in
set_option maxRecDepth 100000 in
theorem m_X7_flow (l : Launch) (f : Nat → Int) (d : Int) (k : Int) (mem : Mem) (hd : i32 d) (hk : i32 k) (hCI : CI mem) (hRS : RS mem 21 f) (hG : GR f) : Ret shp l yX7_flow cX7_flow 3 (some .int) 6 [pR 20, pI d, pI k] mem (fun rv mv => ∃ z, rv = some (pI z) ∧ KeepC mem mv ∧ z = if (0 ≤ d ∧ d < f 1) ∧ 0 ≤ k ∧ k < f 0 then (LF f d (tilF f)).2.1 k.toNat else -1) := by
  refine ret_of (by decide +kernel) (Nat.le_of_ble_eq_true rfl) (fun X hX F G => ?_)
  show Ok shp X 3 0 [(0, pR 20), (1, pI d), (2, pI k)] [] mem
  have he0 : mem 21 0 = f 0 := hRS.1
  have he1 : mem 21 1 = f 1 := hRS.2.1
  have gb0 := hG.1
  have gb1 := hG.2.1
  have gb2 := hG.2.2.1
  have hTl : ∀ k : Nat, k < 8 → mem 23 k = f (11 + k) := fun k hk => hRS.2.2.1 1 (by omega) k hk
  have hT : ∀ k : Nat, k < 8 → 0 ≤ f (11 + k) ∧ f (11 + k) ≤ 99 := fun k hk => hG.2.2.2.2.2.1 0 (by omega) k hk
  have hW : ∀ k : Nat, k < 8 → 0 ≤ mem 23 k ∧ mem 23 k ≤ 99 := fun k hk => by rw [hTl k hk]; exact hT k hk
  refine ok_aload_n F dX7_flow_0 0 rfl ?_
  refine ok_iload_n F dX7_flow_1 1 rfl ?_
  refine ok_callv F [pI d] dX7_flow_2 kM_X7_hasDay kI_X7_hasDay kV_X7_hasDay kL_X7_146 (ci := 7) rfl sh_20 rfl (by decide) (Nat.le_of_ble_eq_true rfl) rfl (m_X7_hasDay _ d mem (by omega) (by omega)) ?_
  rintro _ _ ⟨rfl, rfl⟩
  refine ok_if_eq F 16 dX7_flow_5 (by decide) (by omega) (fun c_1 => ?_) (fun c_1 => ?_)
  · refine ok_iconst F dX7_flow_16 ?_
    refine ok_iret F G dX7_flow_17 ?_
    exact ⟨_, rfl, KeepC.rf hCI, by rw [if_neg (by omega)]⟩
  · refine ok_aload_n F dX7_flow_8 0 rfl ?_
    refine ok_iload_n F dX7_flow_9 2 rfl ?_
    refine ok_callv F [pI k] dX7_flow_10 kM_X7_hasKind kI_X7_hasKind kV_X7_hasKind kL_X7_106 (ci := 7) rfl sh_20 rfl (by decide) (Nat.le_of_ble_eq_true rfl) rfl (m_X7_hasKind _ k mem (by omega) (by omega)) ?_
    rintro _ _ ⟨rfl, rfl⟩
    refine ok_if_ne F 18 dX7_flow_13 (by decide) (by omega) (fun c_2 => ?_) (fun c_2 => ?_)
    · refine ok_aload_n F dX7_flow_18 0 rfl ?_
      refine ok_getr F dX7_flow_19 kF_X7_38 sh_20 rfl ?_
      refine ok_aload_n F dX7_flow_22 0 rfl ?_
      refine ok_getr F dX7_flow_23 kF_X7_10 sh_20 rfl ?_
      refine ok_getr F dX7_flow_26 kF_X7_133 sh_21 rfl ?_
      refine ok_aload_n F dX7_flow_29 0 rfl ?_
      refine ok_getr F dX7_flow_30 kF_X7_10 sh_20 rfl ?_
      refine ok_iload_n F dX7_flow_33 1 rfl ?_
      refine ok_callv F [pR 23, pR 21, pI d] dX7_flow_34 kM_X2_liveFrom kI_X2_liveFrom kV_X2_liveFrom kL_X7_149 (ci := 2) rfl sh_179 rfl (by decide) (Nat.le_of_ble_eq_true rfl) rfl (m_X2_liveFrom _ f 23 d mem (hCI) (hRS) (hG) (sh_23) (by decide) (hW) (by omega)) ?_
      rintro _ m_4 ⟨rfl, r_5⟩
      obtain ⟨l1, l2, l3, l4⟩ := id r_5
      have lL : LRepC m_4 (LF f d (tilF f)) := l3.congr (LF_congr hG hTl)
      have lB := LF_bd (d := d) (w := tilF f) hG hT
      have lP := LF_pc (f := f) (d := d) (w := tilF f)
      have lB3 := lB.2.2.1
      have hkp : KeepC mem m_4 := ⟨fun c hc => l1 c (by omega), l2⟩
      refine ok_aload_n F dX7_flow_37 0 rfl ?_
      refine ok_getr F dX7_flow_38 kF_X7_38 sh_20 rfl ?_
      refine ok_getr F dX7_flow_41 kF_X7_299 sh_179 rfl ?_
      refine ok_iload_n F dX7_flow_44 2 rfl ?_
      refine ok_iald (v := m_4 181 k.toNat) F dX7_flow_45 sh_181 (by first | decide | assumption) (by omega) (by omega) rfl ?_
      refine ok_iret F G dX7_flow_46 ?_
      refine ⟨_, rfl, hkp, ?_⟩
      rw [if_pos (by omega)]
      exact lL.2.1 _ (by omega)
    · refine ok_iconst F dX7_flow_16 ?_
      refine ok_iret F G dX7_flow_17 ?_
      exact ⟨_, rfl, KeepC.rf hCI, by rw [if_neg (by omega)]⟩
theorem dX7_gone_0 : decode cX7_gone 0 = .ok (.aload_n 0, 1) := by decide +kernel
theorem dX7_gone_1 : decode cX7_gone 1 = .ok (.iload_n 1, 1) := by decide +kernel
theorem dX7_gone_2 : decode cX7_gone 2 = .ok (.invokevirtual 146, 3) := by decide +kernel
theorem dX7_gone_5 : decode cX7_gone 5 = .ok (.ifCond .eq 12, 3) := by decide +kernel
theorem dX7_gone_8 : decode cX7_gone 8 = .ok (.iload_n 2, 1) := by decide +kernel
theorem dX7_gone_9 : decode cX7_gone 9 = .ok (.ifCond .lt 8, 3) := by decide +kernel
theorem dX7_gone_12 : decode cX7_gone 12 = .ok (.iload_n 2, 1) := by decide +kernel
theorem dX7_gone_13 : decode cX7_gone 13 = .ok (.iconst 1, 1) := by decide +kernel
theorem dX7_gone_14 : decode cX7_gone 14 = .ok (.if_icmp .le 5, 3) := by decide +kernel
theorem dX7_gone_17 : decode cX7_gone 17 = .ok (.iconst (-1), 1) := by decide +kernel
theorem dX7_gone_18 : decode cX7_gone 18 = .ok (.ireturn, 1) := by decide +kernel
theorem dX7_gone_19 : decode cX7_gone 19 = .ok (.aload_n 0, 1) := by decide +kernel
theorem dX7_gone_20 : decode cX7_gone 20 = .ok (.getfield 38, 3) := by decide +kernel
theorem dX7_gone_23 : decode cX7_gone 23 = .ok (.aload_n 0, 1) := by decide +kernel
theorem dX7_gone_24 : decode cX7_gone 24 = .ok (.getfield 10, 3) := by decide +kernel
theorem dX7_gone_27 : decode cX7_gone 27 = .ok (.getfield 133, 3) := by decide +kernel
theorem dX7_gone_30 : decode cX7_gone 30 = .ok (.aload_n 0, 1) := by decide +kernel
theorem dX7_gone_31 : decode cX7_gone 31 = .ok (.getfield 10, 3) := by decide +kernel
theorem dX7_gone_34 : decode cX7_gone 34 = .ok (.iload_n 1, 1) := by decide +kernel
theorem dX7_gone_35 : decode cX7_gone 35 = .ok (.invokevirtual 149, 3) := by decide +kernel
theorem dX7_gone_38 : decode cX7_gone 38 = .ok (.iload_n 2, 1) := by decide +kernel
theorem dX7_gone_39 : decode cX7_gone 39 = .ok (.ifCond .ne 13, 3) := by decide +kernel
theorem dX7_gone_42 : decode cX7_gone 42 = .ok (.aload_n 0, 1) := by decide +kernel
theorem dX7_gone_43 : decode cX7_gone 43 = .ok (.getfield 38, 3) := by decide +kernel
theorem dX7_gone_46 : decode cX7_gone 46 = .ok (.getfield 302, 3) := by decide +kernel
theorem dX7_gone_49 : decode cX7_gone 49 = .ok (.goto 10, 3) := by decide +kernel
theorem dX7_gone_52 : decode cX7_gone 52 = .ok (.aload_n 0, 1) := by decide +kernel
theorem dX7_gone_53 : decode cX7_gone 53 = .ok (.getfield 38, 3) := by decide +kernel
theorem dX7_gone_56 : decode cX7_gone 56 = .ok (.getfield 305, 3) := by decide +kernel
theorem dX7_gone_59 : decode cX7_gone 59 = .ok (.ireturn, 1) := by decide +kernel
set_option maxHeartbeats 4000000 in
set_option maxRecDepth 100000 in
theorem m_X7_gone (l : Launch) (f : Nat → Int) (d : Int) (w : Int) (mem : Mem) (hd : i32 d) (hw : i32 w) (hCI : CI mem) (hRS : RS mem 21 f) (hG : GR f) : Ret shp l yX7_gone cX7_gone 3 (some .int) 6 [pR 20, pI d, pI w] mem (fun rv mv => ∃ z, rv = some (pI z) ∧ KeepC mem mv ∧ z = if (0 ≤ d ∧ d < f 1) ∧ 0 ≤ w ∧ w ≤ 1 then (if w = 0 then (LF f d (tilF f)).2.2.2.2.2.2.1 else (LF f d (tilF f)).2.2.2.2.2.2.2.1) else -1) := by
  refine ret_of (by decide +kernel) (Nat.le_of_ble_eq_true rfl) (fun X hX F G => ?_)
  show Ok shp X 3 0 [(0, pR 20), (1, pI d), (2, pI w)] [] mem
  have he0 : mem 21 0 = f 0 := hRS.1
  have he1 : mem 21 1 = f 1 := hRS.2.1
  have gb0 := hG.1
  have gb1 := hG.2.1
  have gb2 := hG.2.2.1
  have hTl : ∀ k : Nat, k < 8 → mem 23 k = f (11 + k) := fun k hk => hRS.2.2.1 1 (by omega) k hk
  have hT : ∀ k : Nat, k < 8 → 0 ≤ f (11 + k) ∧ f (11 + k) ≤ 99 := fun k hk => hG.2.2.2.2.2.1 0 (by omega) k hk
  have hW : ∀ k : Nat, k < 8 → 0 ≤ mem 23 k ∧ mem 23 k ≤ 99 := fun k hk => by rw [hTl k hk]; exact hT k hk
  refine ok_aload_n F dX7_gone_0 0 rfl ?_
  refine ok_iload_n F dX7_gone_1 1 rfl ?_
  refine ok_callv F [pI d] dX7_gone_2 kM_X7_hasDay kI_X7_hasDay kV_X7_hasDay kL_X7_146 (ci := 7) rfl sh_20 rfl (by decide) (Nat.le_of_ble_eq_true rfl) rfl (m_X7_hasDay _ d mem (by omega) (by omega)) ?_
  rintro _ _ ⟨rfl, rfl⟩
  refine ok_if_eq F 17 dX7_gone_5 (by decide) (by omega) (fun c_1 => ?_) (fun c_1 => ?_)
  · refine ok_iconst F dX7_gone_17 ?_
    refine ok_iret F G dX7_gone_18 ?_
    exact ⟨_, rfl, KeepC.rf hCI, by rw [if_neg (by omega)]⟩
  · refine ok_iload_n F dX7_gone_8 2 rfl ?_
    refine ok_if_lt F 17 dX7_gone_9 (by decide) (by omega) (fun c_2 => ?_) (fun c_2 => ?_)
    · refine ok_iconst F dX7_gone_17 ?_
      refine ok_iret F G dX7_gone_18 ?_
      exact ⟨_, rfl, KeepC.rf hCI, by rw [if_neg (by omega)]⟩
    · refine ok_iload_n F dX7_gone_12 2 rfl ?_
      refine ok_iconst F dX7_gone_13 ?_
      refine ok_icmp_le F 19 dX7_gone_14 (by decide) (by omega) (by omega) (fun c_3 => ?_) (fun c_3 => ?_)
      · refine ok_aload_n F dX7_gone_19 0 rfl ?_
        refine ok_getr F dX7_gone_20 kF_X7_38 sh_20 rfl ?_
        refine ok_aload_n F dX7_gone_23 0 rfl ?_
        refine ok_getr F dX7_gone_24 kF_X7_10 sh_20 rfl ?_
        refine ok_getr F dX7_gone_27 kF_X7_133 sh_21 rfl ?_
        refine ok_aload_n F dX7_gone_30 0 rfl ?_
        refine ok_getr F dX7_gone_31 kF_X7_10 sh_20 rfl ?_
        refine ok_iload_n F dX7_gone_34 1 rfl ?_
        refine ok_callv F [pR 23, pR 21, pI d] dX7_gone_35 kM_X2_liveFrom kI_X2_liveFrom kV_X2_liveFrom kL_X7_149 (ci := 2) rfl sh_179 rfl (by decide) (Nat.le_of_ble_eq_true rfl) rfl (m_X2_liveFrom _ f 23 d mem (hCI) (hRS) (hG) (sh_23) (by decide) (hW) (by omega)) ?_
        rintro _ m_5 ⟨rfl, r_6⟩
        obtain ⟨l1, l2, l3, l4⟩ := id r_6
        have lL : LRepC m_5 (LF f d (tilF f)) := l3.congr (LF_congr hG hTl)
        have lB := LF_bd (d := d) (w := tilF f) hG hT
        have lP := LF_pc (f := f) (d := d) (w := tilF f)
        have lB3 := lB.2.2.1
        have hkp : KeepC mem m_5 := ⟨fun c hc => l1 c (by omega), l2⟩
        refine ok_iload_n F dX7_gone_38 2 rfl ?_
        refine ok_if_ne F 52 dX7_gone_39 (by decide) (by omega) (fun c_7 => ?_) (fun c_7 => ?_)
        · refine ok_aload_n F dX7_gone_52 0 rfl ?_
          refine ok_getr F dX7_gone_53 kF_X7_38 sh_20 rfl ?_
          refine ok_getf (v := m_5 179 7) F dX7_gone_56 kF_X7_305 sh_179 rfl rfl ?_
          refine ok_iret F G dX7_gone_59 ?_
          refine ⟨_, rfl, hkp, ?_⟩
          rw [if_pos (by omega)]
          first | (rw [if_pos (by omega)]; exact lL.2.2.2.2.2.1) | (rw [if_neg (by omega)]; exact lL.2.2.2.2.2.2)
        · refine ok_aload_n F dX7_gone_42 0 rfl ?_
          refine ok_getr F dX7_gone_43 kF_X7_38 sh_20 rfl ?_
          refine ok_getf (v := m_5 179 6) F dX7_gone_46 kF_X7_302 sh_179 rfl rfl ?_
          refine ok_goto F 59 dX7_gone_49 (by decide) ?_
          refine ok_iret F G dX7_gone_59 ?_
          refine ⟨_, rfl, hkp, ?_⟩
          rw [if_pos (by omega)]
          first | (rw [if_pos (by omega)]; exact lL.2.2.2.2.2.1) | (rw [if_neg (by omega)]; exact lL.2.2.2.2.2.2)
      · refine ok_iconst F dX7_gone_17 ?_
        refine ok_iret F G dX7_gone_18 ?_
        exact ⟨_, rfl, KeepC.rf hCI, by rw [if_neg (by omega)]⟩
theorem dX7_live_0 : decode cX7_live 0 = .ok (.aload_n 0, 1) := by decide +kernel
theorem dX7_live_1 : decode cX7_live 1 = .ok (.iload_n 1, 1) := by decide +kernel
theorem dX7_live_2 : decode cX7_live 2 = .ok (.invokevirtual 146, 3) := by decide +kernel
theorem dX7_live_5 : decode cX7_live 5 = .ok (.ifCond .ne 5, 3) := by decide +kernel
theorem dX7_live_8 : decode cX7_live 8 = .ok (.iconst (-1), 1) := by decide +kernel
theorem dX7_live_9 : decode cX7_live 9 = .ok (.ireturn, 1) := by decide +kernel
theorem dX7_live_10 : decode cX7_live 10 = .ok (.aload_n 0, 1) := by decide +kernel
theorem dX7_live_11 : decode cX7_live 11 = .ok (.invokevirtual 114, 3) := by decide +kernel
theorem dX7_live_14 : decode cX7_live 14 = .ok (.aload_n 0, 1) := by decide +kernel
theorem dX7_live_15 : decode cX7_live 15 = .ok (.getfield 38, 3) := by decide +kernel
theorem dX7_live_18 : decode cX7_live 18 = .ok (.aload_n 0, 1) := by decide +kernel
theorem dX7_live_19 : decode cX7_live 19 = .ok (.getfield 10, 3) := by decide +kernel
theorem dX7_live_22 : decode cX7_live 22 = .ok (.getfield 133, 3) := by decide +kernel
theorem dX7_live_25 : decode cX7_live 25 = .ok (.aload_n 0, 1) := by decide +kernel
theorem dX7_live_26 : decode cX7_live 26 = .ok (.getfield 10, 3) := by decide +kernel
theorem dX7_live_29 : decode cX7_live 29 = .ok (.iload_n 1, 1) := by decide +kernel
theorem dX7_live_30 : decode cX7_live 30 = .ok (.invokevirtual 149, 3) := by decide +kernel
theorem dX7_live_33 : decode cX7_live 33 = .ok (.aload_n 0, 1) := by decide +kernel
theorem dX7_live_34 : decode cX7_live 34 = .ok (.getfield 38, 3) := by decide +kernel
theorem dX7_live_37 : decode cX7_live 37 = .ok (.getfield 153, 3) := by decide +kernel
theorem dX7_live_40 : decode cX7_live 40 = .ok (.aload_n 0, 1) := by decide +kernel
theorem dX7_live_41 : decode cX7_live 41 = .ok (.getfield 10, 3) := by decide +kernel
theorem dX7_live_44 : decode cX7_live 44 = .ok (.getfield 133, 3) := by decide +kernel
theorem dX7_live_47 : decode cX7_live 47 = .ok (.invokestatic 154, 3) := by decide +kernel
theorem dX7_live_50 : decode cX7_live 50 = .ok (.aload_n 0, 1) := by decide +kernel
theorem dX7_live_51 : decode cX7_live 51 = .ok (.getfield 38, 3) := by decide +kernel
theorem dX7_live_54 : decode cX7_live 54 = .ok (.getfield 158, 3) := by decide +kernel
theorem dX7_live_57 : decode cX7_live 57 = .ok (.ireturn, 1) := by decide +kernel
set_option maxHeartbeats 4000000 in
set_option maxRecDepth 100000 in
theorem m_X7_live (l : Launch) (f : Nat → Int) (d : Int) (mem : Mem) (hd : i32 d) (hPn : 0 ≤ mem 20 5 ∧ mem 20 5 ≤ 9) (hPa : 0 ≤ mem 20 6 ∧ mem 20 6 ≤ 10) (hCI : CI mem) (hRS : RS mem 21 f) (hG : GR f) : Ret shp l yX7_live cX7_live 2 (some .int) 6 [pR 20, pI d] mem (fun rv mv => ∃ z, rv = some (pI z) ∧ (¬ (0 ≤ d ∧ d < f 1) ∧ z = -1 ∧ mv = mem ∨ (0 ≤ d ∧ d < f 1) ∧ z = (LF f d (tilF f)).2.2.1 ∧ CI mv ∧ (∀ c, c < 179 → c ≠ 23 → mv c = remM mem c) ∧ ∀ k : Nat, k < 8 → mv 23 k = (LF f d (tilF f)).1 k)) := by
  refine ret_of (by decide +kernel) (Nat.le_of_ble_eq_true rfl) (fun X hX F G => ?_)
  show Ok shp X 2 0 [(0, pR 20), (1, pI d)] [] mem
  have he0 : mem 21 0 = f 0 := hRS.1
  have he1 : mem 21 1 = f 1 := hRS.2.1
  have gb0 := hG.1
  have gb1 := hG.2.1
  have gb2 := hG.2.2.1
  have hTl : ∀ k : Nat, k < 8 → mem 23 k = f (11 + k) := fun k hk => hRS.2.2.1 1 (by omega) k hk
  have hT : ∀ k : Nat, k < 8 → 0 ≤ f (11 + k) ∧ f (11 + k) ≤ 99 := fun k hk => hG.2.2.2.2.2.1 0 (by omega) k hk
  have hW : ∀ k : Nat, k < 8 → 0 ≤ mem 23 k ∧ mem 23 k ≤ 99 := fun k hk => by rw [hTl k hk]; exact hT k hk
  refine ok_aload_n F dX7_live_0 0 rfl ?_
  refine ok_iload_n F dX7_live_1 1 rfl ?_
  refine ok_callv F [pI d] dX7_live_2 kM_X7_hasDay kI_X7_hasDay kV_X7_hasDay kL_X7_146 (ci := 7) rfl sh_20 rfl (by decide) (Nat.le_of_ble_eq_true rfl) rfl (m_X7_hasDay _ d mem (by omega) (by omega)) ?_
  rintro _ _ ⟨rfl, rfl⟩
  refine ok_if_ne F 10 dX7_live_5 (by decide) (by omega) (fun c_1 => ?_) (fun c_1 => ?_)
  · refine ok_aload_n F dX7_live_10 0 rfl ?_
    refine ok_callv F [] dX7_live_11 kM_X7_remember kI_X7_remember kV_X7_remember kL_X7_114 (ci := 7) rfl sh_20 rfl (by decide) (Nat.le_of_ble_eq_true rfl) rfl (m_X7_remember _ mem (hPn) (hPa)) ?_
    rintro _ m_2 ⟨rfl, e_3⟩
    have hrm : m_2 = remM mem := e_3
    have rr : ∀ a, a ≠ 20 → (a < 43 ∨ 153 ≤ a) → m_2 a = mem a := fun a a1 a2 => remM_at hrm hPn ⟨a1, a2⟩
    obtain ⟨mB, hmB⟩ : ∃ x, x = m_2 := ⟨_, rfl⟩
    refine ok_aload_n F dX7_live_14 0 rfl ?_
    refine ok_getr F dX7_live_15 kF_X7_38 sh_20 rfl ?_
    refine ok_aload_n F dX7_live_18 0 rfl ?_
    refine ok_getr F dX7_live_19 kF_X7_10 sh_20 rfl ?_
    refine ok_getr F dX7_live_22 kF_X7_133 sh_21 rfl ?_
    refine ok_aload_n F dX7_live_25 0 rfl ?_
    refine ok_getr F dX7_live_26 kF_X7_10 sh_20 rfl ?_
    refine ok_iload_n F dX7_live_29 1 rfl ?_
    refine ok_callv F [pR 23, pR 21, pI d] dX7_live_30 kM_X2_liveFrom kI_X2_liveFrom kV_X2_liveFrom kL_X7_149 (ci := 2) rfl sh_179 rfl (by decide) (Nat.le_of_ble_eq_true rfl) rfl (m_X2_liveFrom _ f 23 d m_2 (hCI.congr (fun c c1 c2 _ _ => rr c (by omega) (by omega))) (hRS.congr (fun c c1 c2 => rr c (by omega) (by omega))) (hG) (sh_23) (by decide) (fun k hk => by rw [rr 23 (by decide) (by decide)]; exact hW k hk) (by omega)) ?_
    rintro _ m_5 ⟨rfl, r_6⟩
    obtain ⟨l1, l2, l3, l4⟩ := id r_6
    rw [← hmB] at l1
    have lL : LRepC m_5 (LF f d (tilF f)) := l3.congr (LF_congr hG (fun k hk => by rw [rr 23 (by decide) (by decide)]; exact hTl k hk))
    obtain ⟨mC, hmC⟩ : ∃ x, x = m_5 := ⟨_, rfl⟩
    rw [← hmC] at l1 l2 lL
    refine ok_aload_n F dX7_live_33 0 rfl ?_
    refine ok_getr F dX7_live_34 kF_X7_38 sh_20 rfl ?_
    refine ok_getr F dX7_live_37 kF_X7_153 sh_179 rfl ?_
    refine ok_aload_n F dX7_live_40 0 rfl ?_
    refine ok_getr F dX7_live_41 kF_X7_10 sh_20 rfl ?_
    refine ok_getr F dX7_live_44 kF_X7_133 sh_21 rfl ?_
    refine ok_calls F [pR 180, pR 23] dX7_live_47 kM_X7_copyRow kS_X7_copyRow kL_X7_154 rfl (by decide) (Nat.le_of_ble_eq_true rfl) rfl (m_X7_copyRow _ 180 23 m_5 (8) (sh_180) (sh_23) (by decide)) ?_
    rintro _ m_7 ⟨rfl, e_8⟩
    have e1 : m_7 = cpyN mC 180 0 23 0 8 := by rw [hmC]; exact e_8
    obtain ⟨mD, hmD⟩ : ∃ x, x = m_7 := ⟨_, rfl⟩
    rw [← hmD] at e1
    have e2 : ∀ c, c ≠ 23 → mD c = mC c := fun c hc => cpyN_cell e1 hc
    have e179 : mD 179 3 = mC 179 3 := by rw [e2 179 (by decide)]
    refine ok_aload_n F dX7_live_50 0 rfl ?_
    refine ok_getr F dX7_live_51 kF_X7_38 sh_20 rfl ?_
    refine ok_getf (v := m_5 179 3) F dX7_live_54 kF_X7_158 sh_179 rfl (by rw [(cpyN_cell (a := 179) e_8 (by decide))] <;> rfl) ?_
    refine ok_iret F G dX7_live_57 ?_
    rw [← hmD]
    refine ⟨_, rfl, Or.inr ⟨by omega, ?_, l2.congr (fun c c1 c2 _ _ => e2 c (by omega)), fun c c1 c2 => by rw [e2 c c2, l1 c (by omega), hmB, hrm], fun k hk => ?_⟩⟩
    · first | (rw [e179]; exact lL.2.2.1) | exact lL.2.2.1 | (rw [← hmC]; exact lL.2.2.1)
    · rw [e1, ← lL.1 k hk]; unfold cpyN; rw [if_pos (by omega), show 0 + (k - 0) = k by omega]
  · refine ok_iconst F dX7_live_8 ?_
    refine ok_iret F G dX7_live_9 ?_
    exact ⟨_, rfl, Or.inl ⟨by omega, rfl, rfl⟩⟩
