/-! the class: what is asked about change and settling -/
/-- what a question leaves: all but the tables and the rows that are reckoned with -/
def KeepC (mem mv : Mem) : Prop := (∀ c, c < 179 → mv c = mem c) ∧ CI mv
theorem cpyN_cell {mem mv : Mem} {c p t q n a : Nat} (h : mv = cpyN mem c p t q n) (ha : a ≠ t) : mv a = mem a := by
  rw [h]
  funext b
  exact cpyN_ne ha
theorem KeepC.rf {mem : Mem} (h : CI mem) : KeepC mem mem := ⟨fun _ _ => rfl, h⟩
theorem TookC.keep {mem mv : Mem} {R : Nat} {a z : Int} (h : TookC mem mv R a z) : KeepC mem mv := ⟨fun c hc => h.1 c (by omega), h.2.1⟩
theorem LaidC.keep {mem mv : Mem} {R : Nat} {n high : Int} (hC : CI mem) (h : LaidC mem mv R n high) (hV : ∀ i : Nat, i < 8 → 0 ≤ mem 22 i ∧ mem 22 i ≤ 500) : KeepC mem mv := ⟨fun c hc => h.1 c (by omega), hC.1.congr (fun c c1 c2 c3 c4 c5 => h.1 c (by omega)), h.fi hV⟩
theorem LaidS.keep {mem mv : Mem} (hC : CI mem) (h : LaidS mem mv) (hV : ∀ i : Nat, i < 8 → 0 ≤ mem 22 i ∧ mem 22 i ≤ 500) : KeepC mem mv := ⟨fun c hc => h.1 c (by omega), hC.1.congr (fun c c1 c2 c3 c4 c5 => h.1 c (by omega)), h.fi hV⟩
theorem LaidC.val {mem mv : Mem} {R : Nat} {n T : Int} (h4 : ∀ i : Nat, i < 8 → mv 190 i = mem 22 i ∧ mv 191 i = (if (i : Int) < n then mem R i else 0) ∧ mv 192 i = 0) (hn : 0 ≤ n ∧ n ≤ 8) {a : Int} (ha : 0 ≤ a ∧ a ≤ T) : tbC (mv 190) (mv 191) T n.toNat a = fewT (fun i => (mem 22 i).toNat) (fun i => (mem R i).toNat) n.toNat a.toNat := by
  rw [tbC_at ha]
  exact fewT_congr2 _ (fun i hi => by have q := h4 i (by omega); rw [q.1, q.2.1, if_pos (by omega)]; exact ⟨rfl, rfl⟩)
theorem evenF_congr {v : Nat → Nat} {n a : Nat} (hn : n ≤ 8) : ∀ (t : Nat) {w w' : Nat → Int}, (∀ k, k < 8 → w k = w' k) → evenF v n a t w = evenF v n a t w'
  | 0, w, w', h => by
    unfold evenF chgF
    rw [fewT_congr (c' := fun i => (w' i).toNat) a (fun i hi => by rw [h i (by omega)])]
  | t + 1, w, w', h => by
    rw [evenF_s, evenF_s, fewT_congr (c' := fun i => (w' i).toNat) a (fun i hi => by rw [h i (by omega)])]
    by_cases g : fewT v (fun i => (w' i).toNat) n a < 1000000
    · rw [if_pos g, if_pos g]
      refine evenF_congr hn t (fun k hk => ?_)
      rw [h k hk, takR_congr (c' := fun i => (w' i).toNat) a k (fun i hi => by rw [h i (by omega)])]
    · rw [if_neg g, if_neg g]
theorem evenF_no {v : Nat → Nat} {n a : Nat} {w : Nat → Int} (h : ¬ fewT v (fun i => (w i).toNat) n a < 1000000) : ∀ t, evenF v n a t w = -2
  | 0 => if_neg h
  | t + 1 => if_neg h
/-- going by the greatest first comes to a row of what there is -/
theorem grL_row (v c : Nat → Nat) : ∀ (k l n : Nat), ∃ r : Nat → Nat, (∀ i, i < k → r i ≤ c i) ∧ sumV r v k + (grL v c k l n).1 = l ∧ (grL v c k l n).2 = n + sumC r k
  | 0, l, n => ⟨fun _ => 0, fun i hi => by omega, Nat.zero_add l, rfl⟩
  | k + 1, l, n => by
    obtain ⟨r, r1, r2, r3⟩ := grL_row v c k (l - min (c k) (l / v k) * v k) (n + min (c k) (l / v k))
    have hle : min (c k) (l / v k) * v k ≤ l := Nat.le_trans (Nat.mul_le_mul_right _ (Nat.min_le_right _ _)) (Nat.div_mul_le_self l (v k))
    have b1 : ∀ i, i < k → (fun i => if i = k then min (c k) (l / v k) else r i) i = r i := fun i hi => if_neg (by omega)
    have b2 : (fun i => if i = k then min (c k) (l / v k) else r i) k = min (c k) (l / v k) := if_pos rfl
    refine ⟨fun i => if i = k then min (c k) (l / v k) else r i, fun i hi => ?_, ?_, ?_⟩
    · by_cases e : i = k
      · subst e; rw [b2]; exact Nat.min_le_left _ _
      · rw [b1 i (by omega)]; exact r1 i (by omega)
    · show sumV _ v k + (fun i => if i = k then min (c k) (l / v k) else r i) k * v k + (grL v c (k + 1) l n).1 = l
      rw [sumV_congr b1, b2, grL_s]
      omega
    · show (grL v c (k + 1) l n).2 = n + (sumC _ k + (fun i => if i = k then min (c k) (l / v k) else r i) k)
      rw [sumC_congr b1, b2, grL_s]
      omega
theorem greed_ge {v c : Nat → Nat} {n a : Nat} (h : (grL v c n a 0).1 = 0) : fewT v c n a ≤ (grL v c n a 0).2 := by
  obtain ⟨r, r1, r2, r3⟩ := grL_row v c n a 0
  have := fewT_least r1 (show sumV r v n = a by omega)
  omega
theorem leastN_congr {h g : Int → Int} {lo : Int} : ∀ {n : Nat}, (∀ z, h z = g z) → leastN h lo n = leastN g lo n
  | 0, _ => rfl
  | n + 1, e => by
    show min (leastN h lo n) (h (lo + n)) = min (leastN g lo n) (g (lo + n))
    rw [leastN_congr e, e]
theorem stlT_congr {v g r v' g' r' : Nat → Int} : ∀ {k : Nat} (s : Int), (∀ i, i < k → v i = v' i ∧ g i = g' i ∧ r i = r' i) → stlT v g r k s = stlT v' g' r' k s
  | 0, _, _ => rfl
  | k + 1, s, h => by
    obtain ⟨h1, h2, h3⟩ := h k (by omega)
    show (if -2000 ≤ s ∧ s ≤ 2000 then leastN (fun z => stlT v g r k (s - z * v k) + (z.natAbs : Int)) (-(r k)) (r k + g k + 1).toNat else 1000000) = (if -2000 ≤ s ∧ s ≤ 2000 then leastN (fun z => stlT v' g' r' k (s - z * v' k) + (z.natAbs : Int)) (-(r' k)) (r' k + g' k + 1).toNat else 1000000)
    rw [h1, h2, h3]
    by_cases q : -2000 ≤ s ∧ s ≤ 2000
    · rw [if_pos q, if_pos q]
      exact leastN_congr (fun z => by rw [stlT_congr _ (fun i hi => h i (by omega))])
    · rw [if_neg q, if_neg q]
theorem topZ_congr {P Q : Int → Bool} : ∀ (n : Nat) (z : Int), (∀ z, P z = Q z) → topZ P n z = topZ Q n z
  | 0, _, _ => rfl
  | n + 1, z, h => by rw [topZ_s, topZ_s, h, topZ_congr n (z - 1) h]
theorem rdZ_congr {t t' : Nat → Int → Int} {v g r v' g' r' : Nat → Int} {k : Nat} {s d : Int} (ht : ∀ s, t k s = t' k s) (h : v k = v' k ∧ g k = g' k ∧ r k = r' k) : rdZ t v g r k s d = rdZ t' v' g' r' k s d := by
  unfold rdZ
  rw [h.1, h.2.1, h.2.2]
  exact topZ_congr _ _ (fun z => by rw [ht])
theorem rdR_congr {t t' : Nat → Int → Int} {v g r v' g' r' : Nat → Int} : ∀ {n : Nat} (s d : Int) (j : Nat), (∀ k, k < n → ∀ s, t k s = t' k s) → (∀ i, i < n → v i = v' i ∧ g i = g' i ∧ r i = r' i) → rdR t v g r n s d j = rdR t' v' g' r' n s d j
  | 0, _, _, _, _, _ => rfl
  | n + 1, s, d, j, ht, h => by
    rw [rdR_s, rdR_s, rdZ_congr (ht n (by omega)) (h n (by omega)), (h n (by omega)).1, rdR_congr _ _ j (fun k hk => ht k (by omega)) (fun i hi => h i (by omega))]
theorem dX7_change_0 : decode cX7_change 0 = .ok (.iload_n 1, 1) := by decide +kernel
theorem dX7_change_1 : decode cX7_change 1 = .ok (.invokestatic 243, 3) := by decide +kernel
theorem dX7_change_4 : decode cX7_change 4 = .ok (.ifCond .ne 5, 3) := by decide +kernel
theorem dX7_change_7 : decode cX7_change 7 = .ok (.iconst (-1), 1) := by decide +kernel
theorem dX7_change_8 : decode cX7_change 8 = .ok (.ireturn, 1) := by decide +kernel
theorem dX7_change_9 : decode cX7_change 9 = .ok (.aload_n 0, 1) := by decide +kernel
theorem dX7_change_10 : decode cX7_change 10 = .ok (.getfield 46, 3) := by decide +kernel
theorem dX7_change_13 : decode cX7_change 13 = .ok (.aload_n 0, 1) := by decide +kernel
theorem dX7_change_14 : decode cX7_change 14 = .ok (.getfield 10, 3) := by decide +kernel
theorem dX7_change_17 : decode cX7_change 17 = .ok (.aload_n 0, 1) := by decide +kernel
theorem dX7_change_18 : decode cX7_change 18 = .ok (.getfield 10, 3) := by decide +kernel
theorem dX7_change_21 : decode cX7_change 21 = .ok (.getfield 133, 3) := by decide +kernel
theorem dX7_change_24 : decode cX7_change 24 = .ok (.iload_n 1, 1) := by decide +kernel
theorem dX7_change_25 : decode cX7_change 25 = .ok (.invokevirtual 136, 3) := by decide +kernel
theorem dX7_change_28 : decode cX7_change 28 = .ok (.istore_n 2, 1) := by decide +kernel
theorem dX7_change_29 : decode cX7_change 29 = .ok (.iload_n 2, 1) := by decide +kernel
theorem dX7_change_30 : decode cX7_change 30 = .ok (.ifCond .ge 8, 3) := by decide +kernel
theorem dX7_change_33 : decode cX7_change 33 = .ok (.bipush (-2), 2) := by decide +kernel
theorem dX7_change_35 : decode cX7_change 35 = .ok (.goto 4, 3) := by decide +kernel
theorem dX7_change_38 : decode cX7_change 38 = .ok (.iload_n 2, 1) := by decide +kernel
theorem dX7_change_39 : decode cX7_change 39 = .ok (.ireturn, 1) := by decide +kernel
set_option maxHeartbeats 4000000 in
set_option maxRecDepth 100000 in
theorem m_X7_change (l : Launch) (a : Int) (mem : Mem) (hai : i32 a) (hCI : CI mem) (hN : 0 ≤ mem 21 0 ∧ mem 21 0 ≤ 8) (hV : ∀ i : Nat, i < 8 → 0 ≤ mem 22 i ∧ mem 22 i ≤ 500) (hV1 : ∀ i : Nat, (i : Int) < mem 21 0 → 1 ≤ mem 22 i) (hTl : ∀ k : Nat, k < 8 → 0 ≤ mem 23 k ∧ mem 23 k ≤ 99) : Ret shp l yX7_change cX7_change 3 (some .int) 4 [pR 20, pI a] mem (fun rv mv => ∃ z, rv = some (pI z) ∧ KeepC mem mv ∧ z = if 0 ≤ a ∧ a ≤ 2500 then chgF (fun i => (mem 22 i).toNat) (fun i => (mem 23 i).toNat) (mem 21 0).toNat a.toNat else -1) := by
  refine ret_of (by decide +kernel) (Nat.le_of_ble_eq_true rfl) (fun X hX F G => ?_)
  show Ok shp X 3 0 [(0, pR 20), (1, pI a)] [] mem
  refine ok_iload_n F dX7_change_0 1 rfl ?_
  refine ok_calls F [pI a] dX7_change_1 kM_X7_isAmount kS_X7_isAmount kL_X7_243 rfl (by decide) (Nat.le_of_ble_eq_true rfl) rfl (m_X7_isAmount _ a mem (by omega)) ?_
  rintro _ _ ⟨rfl, rfl⟩
  refine ok_if_ne F 9 dX7_change_4 (by decide) (by omega) (fun c_1 => ?_) (fun c_1 => ?_)
  · refine ok_aload_n F dX7_change_9 0 rfl ?_
    refine ok_getr F dX7_change_10 kF_X7_46 sh_20 rfl ?_
    refine ok_aload_n F dX7_change_13 0 rfl ?_
    refine ok_getr F dX7_change_14 kF_X7_10 sh_20 rfl ?_
    refine ok_aload_n F dX7_change_17 0 rfl ?_
    refine ok_getr F dX7_change_18 kF_X7_10 sh_20 rfl ?_
    refine ok_getr F dX7_change_21 kF_X7_133 sh_21 rfl ?_
    refine ok_iload_n F dX7_change_24 1 rfl ?_
    refine ok_callv F [pR 21, pR 23, pI a] dX7_change_25 kM_X0_take kI_X0_take kV_X0_take kL_X7_136 (ci := 0) rfl sh_183 rfl (by decide) (Nat.le_of_ble_eq_true rfl) rfl (m_X0_take _ 23 a mem (hCI) (by omega) (hV) (hV1) (by omega) (sh_23) (by decide) (fun i hi => by have := hTl i (by omega); omega)) ?_
    rintro _ m_3 ⟨z_2, rfl, r_4⟩
    obtain ⟨k1, k2, k3⟩ := id r_4
    have k4 : (fewT (fun i => (mem 22 i).toNat) (fun i => (mem 23 i).toNat) (mem 21 0).toNat a.toNat = 1000000 ∧ z_2 = -1) ∨ (fewT (fun i => (mem 22 i).toNat) (fun i => (mem 23 i).toNat) (mem 21 0).toNat a.toNat < 1000000 ∧ z_2 = fewT (fun i => (mem 22 i).toNat) (fun i => (mem 23 i).toNat) (mem 21 0).toNat a.toNat) := k3.imp id (fun q => ⟨q.1, q.2.1⟩)
    have kb := fewT_bd (fun i => (mem 22 i).toNat) (fun i => (mem 23 i).toNat) (mem 21 0).toNat a.toNat
    refine ok_istore_n (lv' := [(2, pI z_2), (0, pR 20), (1, pI a)]) F dX7_change_28 (by decide) rfl ?_
    refine ok_iload_n F dX7_change_29 0 rfl ?_
    refine ok_if_ge F 38 dX7_change_30 (by decide) (by omega) (fun c_5 => ?_) (fun c_5 => ?_)
    · refine ok_iload_n F dX7_change_38 0 rfl ?_
      refine ok_iret F G dX7_change_39 ?_
      refine ⟨_, rfl, ⟨fun c hc => k1 c (by omega), k2⟩, ?_⟩
      rw [if_pos (by omega), chgF]
      omega
    · refine ok_bipush F dX7_change_33 rfl ?_
      refine ok_goto F 39 dX7_change_35 (by decide) ?_
      refine ok_iret F G dX7_change_39 ?_
      refine ⟨_, rfl, ⟨fun c hc => k1 c (by omega), k2⟩, ?_⟩
      rw [if_pos (by omega), chgF]
      omega
  · refine ok_iconst F dX7_change_7 ?_
    refine ok_iret F G dX7_change_8 ?_
    exact ⟨_, rfl, KeepC.rf hCI, by rw [if_neg (by omega)]⟩
theorem dX7_piece_0 : decode cX7_piece 0 = .ok (.iload_n 1, 1) := by decide +kernel
theorem dX7_piece_1 : decode cX7_piece 1 = .ok (.invokestatic 243, 3) := by decide +kernel
theorem dX7_piece_4 : decode cX7_piece 4 = .ok (.ifCond .eq 11, 3) := by decide +kernel
theorem dX7_piece_7 : decode cX7_piece 7 = .ok (.aload_n 0, 1) := by decide +kernel
theorem dX7_piece_8 : decode cX7_piece 8 = .ok (.iload_n 2, 1) := by decide +kernel
theorem dX7_piece_9 : decode cX7_piece 9 = .ok (.invokevirtual 106, 3) := by decide +kernel
theorem dX7_piece_12 : decode cX7_piece 12 = .ok (.ifCond .ne 5, 3) := by decide +kernel
theorem dX7_piece_15 : decode cX7_piece 15 = .ok (.iconst (-1), 1) := by decide +kernel
theorem dX7_piece_16 : decode cX7_piece 16 = .ok (.ireturn, 1) := by decide +kernel
theorem dX7_piece_17 : decode cX7_piece 17 = .ok (.aload_n 0, 1) := by decide +kernel
theorem dX7_piece_18 : decode cX7_piece 18 = .ok (.getfield 46, 3) := by decide +kernel
theorem dX7_piece_21 : decode cX7_piece 21 = .ok (.aload_n 0, 1) := by decide +kernel
theorem dX7_piece_22 : decode cX7_piece 22 = .ok (.getfield 10, 3) := by decide +kernel
theorem dX7_piece_25 : decode cX7_piece 25 = .ok (.aload_n 0, 1) := by decide +kernel
theorem dX7_piece_26 : decode cX7_piece 26 = .ok (.getfield 10, 3) := by decide +kernel
theorem dX7_piece_29 : decode cX7_piece 29 = .ok (.getfield 133, 3) := by decide +kernel
theorem dX7_piece_32 : decode cX7_piece 32 = .ok (.iload_n 1, 1) := by decide +kernel
theorem dX7_piece_33 : decode cX7_piece 33 = .ok (.invokevirtual 136, 3) := by decide +kernel
theorem dX7_piece_36 : decode cX7_piece 36 = .ok (.ifCond .ge 8, 3) := by decide +kernel
theorem dX7_piece_39 : decode cX7_piece 39 = .ok (.bipush (-2), 2) := by decide +kernel
theorem dX7_piece_41 : decode cX7_piece 41 = .ok (.goto 12, 3) := by decide +kernel
theorem dX7_piece_44 : decode cX7_piece 44 = .ok (.aload_n 0, 1) := by decide +kernel
theorem dX7_piece_45 : decode cX7_piece 45 = .ok (.getfield 46, 3) := by decide +kernel
theorem dX7_piece_48 : decode cX7_piece 48 = .ok (.getfield 140, 3) := by decide +kernel
theorem dX7_piece_51 : decode cX7_piece 51 = .ok (.iload_n 2, 1) := by decide +kernel
theorem dX7_piece_52 : decode cX7_piece 52 = .ok (.iaload, 1) := by decide +kernel
theorem dX7_piece_53 : decode cX7_piece 53 = .ok (.ireturn, 1) := by decide +kernel
set_option maxHeartbeats 4000000 in
set_option maxRecDepth 100000 in
theorem m_X7_piece (l : Launch) (a : Int) (k : Int) (mem : Mem) (hai : i32 a) (hk : i32 k) (hCI : CI mem) (hN : 0 ≤ mem 21 0 ∧ mem 21 0 ≤ 8) (hV : ∀ i : Nat, i < 8 → 0 ≤ mem 22 i ∧ mem 22 i ≤ 500) (hV1 : ∀ i : Nat, (i : Int) < mem 21 0 → 1 ≤ mem 22 i) (hTl : ∀ k : Nat, k < 8 → 0 ≤ mem 23 k ∧ mem 23 k ≤ 99) : Ret shp l yX7_piece cX7_piece 3 (some .int) 4 [pR 20, pI a, pI k] mem (fun rv mv => ∃ z, rv = some (pI z) ∧ KeepC mem mv ∧ z = if (0 ≤ a ∧ a ≤ 2500) ∧ 0 ≤ k ∧ k < mem 21 0 then (if fewT (fun i => (mem 22 i).toNat) (fun i => (mem 23 i).toNat) (mem 21 0).toNat a.toNat < 1000000 then ((takR (fun i => (mem 22 i).toNat) (fun i => (mem 23 i).toNat) (mem 21 0).toNat a.toNat k.toNat : Nat) : Int) else -2) else -1) := by
  refine ret_of (by decide +kernel) (Nat.le_of_ble_eq_true rfl) (fun X hX F G => ?_)
  show Ok shp X 3 0 [(0, pR 20), (1, pI a), (2, pI k)] [] mem
  refine ok_iload_n F dX7_piece_0 1 rfl ?_
  refine ok_calls F [pI a] dX7_piece_1 kM_X7_isAmount kS_X7_isAmount kL_X7_243 rfl (by decide) (Nat.le_of_ble_eq_true rfl) rfl (m_X7_isAmount _ a mem (by omega)) ?_
  rintro _ _ ⟨rfl, rfl⟩
  refine ok_if_eq F 15 dX7_piece_4 (by decide) (by omega) (fun c_1 => ?_) (fun c_1 => ?_)
  · refine ok_iconst F dX7_piece_15 ?_
    refine ok_iret F G dX7_piece_16 ?_
    exact ⟨_, rfl, KeepC.rf hCI, by rw [if_neg (by omega)]⟩
  · refine ok_aload_n F dX7_piece_7 0 rfl ?_
    refine ok_iload_n F dX7_piece_8 2 rfl ?_
    refine ok_callv F [pI k] dX7_piece_9 kM_X7_hasKind kI_X7_hasKind kV_X7_hasKind kL_X7_106 (ci := 7) rfl sh_20 rfl (by decide) (Nat.le_of_ble_eq_true rfl) rfl (m_X7_hasKind _ k mem (by omega) (by omega)) ?_
    rintro _ _ ⟨rfl, rfl⟩
    refine ok_if_ne F 17 dX7_piece_12 (by decide) (by omega) (fun c_2 => ?_) (fun c_2 => ?_)
    · refine ok_aload_n F dX7_piece_17 0 rfl ?_
      refine ok_getr F dX7_piece_18 kF_X7_46 sh_20 rfl ?_
      refine ok_aload_n F dX7_piece_21 0 rfl ?_
      refine ok_getr F dX7_piece_22 kF_X7_10 sh_20 rfl ?_
      refine ok_aload_n F dX7_piece_25 0 rfl ?_
      refine ok_getr F dX7_piece_26 kF_X7_10 sh_20 rfl ?_
      refine ok_getr F dX7_piece_29 kF_X7_133 sh_21 rfl ?_
      refine ok_iload_n F dX7_piece_32 1 rfl ?_
      refine ok_callv F [pR 21, pR 23, pI a] dX7_piece_33 kM_X0_take kI_X0_take kV_X0_take kL_X7_136 (ci := 0) rfl sh_183 rfl (by decide) (Nat.le_of_ble_eq_true rfl) rfl (m_X0_take _ 23 a mem (hCI) (by omega) (hV) (hV1) (by omega) (sh_23) (by decide) (fun i hi => by have := hTl i (by omega); omega)) ?_
      rintro _ m_4 ⟨z_3, rfl, r_5⟩
      obtain ⟨k1, k2, k3⟩ := id r_5
      have k4 : (fewT (fun i => (mem 22 i).toNat) (fun i => (mem 23 i).toNat) (mem 21 0).toNat a.toNat = 1000000 ∧ z_3 = -1) ∨ (fewT (fun i => (mem 22 i).toNat) (fun i => (mem 23 i).toNat) (mem 21 0).toNat a.toNat < 1000000 ∧ z_3 = fewT (fun i => (mem 22 i).toNat) (fun i => (mem 23 i).toNat) (mem 21 0).toNat a.toNat) := k3.imp id (fun q => ⟨q.1, q.2.1⟩)
      have kb := fewT_bd (fun i => (mem 22 i).toNat) (fun i => (mem 23 i).toNat) (mem 21 0).toNat a.toNat
      refine ok_if_ge F 44 dX7_piece_36 (by decide) (by omega) (fun c_6 => ?_) (fun c_6 => ?_)
      · refine ok_aload_n F dX7_piece_44 0 rfl ?_
        refine ok_getr F dX7_piece_45 kF_X7_46 sh_20 rfl ?_
        refine ok_getr F dX7_piece_48 kF_X7_140 sh_183 rfl ?_
        refine ok_iload_n F dX7_piece_51 2 rfl ?_
        refine ok_iald (v := m_4 185 k.toNat) F dX7_piece_52 sh_185 (by first | decide | assumption) (by omega) (by omega) rfl ?_
        refine ok_iret F G dX7_piece_53 ?_
        refine ⟨_, rfl, ⟨fun c hc => k1 c (by omega), k2⟩, ?_⟩
        rw [if_pos (by omega)]
        first | (rw [if_neg (by omega)]; done) | (rw [if_pos (by omega)]; exact (k3.resolve_left (fun q => by omega)).2.2 k.toNat (by omega))
      · refine ok_bipush F dX7_piece_39 rfl ?_
        refine ok_goto F 53 dX7_piece_41 (by decide) ?_
        refine ok_iret F G dX7_piece_53 ?_
        refine ⟨_, rfl, ⟨fun c hc => k1 c (by omega), k2⟩, ?_⟩
        rw [if_pos (by omega)]
        first | (rw [if_neg (by omega)]; done) | (rw [if_pos (by omega)]; exact (k3.resolve_left (fun q => by omega)).2.2 k.toNat (by omega))
    · refine ok_iconst F dX7_piece_15 ?_
      refine ok_iret F G dX7_piece_16 ?_
      exact ⟨_, rfl, KeepC.rf hCI, by rw [if_neg (by omega)]⟩
theorem dX7_pays_0 : decode cX7_pays 0 = .ok (.iload_n 1, 1) := by decide +kernel
theorem dX7_pays_1 : decode cX7_pays 1 = .ok (.invokestatic 127, 3) := by decide +kernel
theorem dX7_pays_4 : decode cX7_pays 4 = .ok (.ifCond .eq 11, 3) := by decide +kernel
theorem dX7_pays_7 : decode cX7_pays 7 = .ok (.aload_n 0, 1) := by decide +kernel
theorem dX7_pays_8 : decode cX7_pays 8 = .ok (.iload_n 2, 1) := by decide +kernel
theorem dX7_pays_9 : decode cX7_pays 9 = .ok (.invokevirtual 246, 3) := by decide +kernel
theorem dX7_pays_12 : decode cX7_pays 12 = .ok (.ifCond .ne 5, 3) := by decide +kernel
theorem dX7_pays_15 : decode cX7_pays 15 = .ok (.iconst (-1), 1) := by decide +kernel
theorem dX7_pays_16 : decode cX7_pays 16 = .ok (.ireturn, 1) := by decide +kernel
theorem dX7_pays_17 : decode cX7_pays 17 = .ok (.aload_n 0, 1) := by decide +kernel
theorem dX7_pays_18 : decode cX7_pays 18 = .ok (.getfield 46, 3) := by decide +kernel
theorem dX7_pays_21 : decode cX7_pays 21 = .ok (.aload_n 0, 1) := by decide +kernel
theorem dX7_pays_22 : decode cX7_pays 22 = .ok (.getfield 10, 3) := by decide +kernel
theorem dX7_pays_25 : decode cX7_pays 25 = .ok (.aload_n 0, 1) := by decide +kernel
theorem dX7_pays_26 : decode cX7_pays 26 = .ok (.getfield 10, 3) := by decide +kernel
theorem dX7_pays_29 : decode cX7_pays 29 = .ok (.getfield 117, 3) := by decide +kernel
theorem dX7_pays_32 : decode cX7_pays 32 = .ok (.iload_n 1, 1) := by decide +kernel
theorem dX7_pays_33 : decode cX7_pays 33 = .ok (.invokevirtual 136, 3) := by decide +kernel
theorem dX7_pays_36 : decode cX7_pays 36 = .ok (.istore_n 3, 1) := by decide +kernel
theorem dX7_pays_37 : decode cX7_pays 37 = .ok (.iload_n 3, 1) := by decide +kernel
theorem dX7_pays_38 : decode cX7_pays 38 = .ok (.ifCond .ge 6, 3) := by decide +kernel
theorem dX7_pays_41 : decode cX7_pays 41 = .ok (.bipush (-2), 2) := by decide +kernel
theorem dX7_pays_43 : decode cX7_pays 43 = .ok (.ireturn, 1) := by decide +kernel
theorem dX7_pays_44 : decode cX7_pays 44 = .ok (.iload_n 2, 1) := by decide +kernel
theorem dX7_pays_45 : decode cX7_pays 45 = .ok (.iconst (-1), 1) := by decide +kernel
theorem dX7_pays_46 : decode cX7_pays 46 = .ok (.if_icmp .ne 7, 3) := by decide +kernel
theorem dX7_pays_49 : decode cX7_pays 49 = .ok (.iload_n 3, 1) := by decide +kernel
theorem dX7_pays_50 : decode cX7_pays 50 = .ok (.goto 12, 3) := by decide +kernel
theorem dX7_pays_53 : decode cX7_pays 53 = .ok (.aload_n 0, 1) := by decide +kernel
theorem dX7_pays_54 : decode cX7_pays 54 = .ok (.getfield 46, 3) := by decide +kernel
theorem dX7_pays_57 : decode cX7_pays 57 = .ok (.getfield 140, 3) := by decide +kernel
theorem dX7_pays_60 : decode cX7_pays 60 = .ok (.iload_n 2, 1) := by decide +kernel
theorem dX7_pays_61 : decode cX7_pays 61 = .ok (.iaload, 1) := by decide +kernel
theorem dX7_pays_62 : decode cX7_pays 62 = .ok (.ireturn, 1) := by decide +kernel
set_option maxHeartbeats 4000000 in
set_option maxRecDepth 100000 in
theorem m_X7_pays (l : Launch) (a : Int) (k : Int) (mem : Mem) (hai : i32 a) (hk : i32 k) (hCI : CI mem) (hN : 0 ≤ mem 21 0 ∧ mem 21 0 ≤ 8) (hV : ∀ i : Nat, i < 8 → 0 ≤ mem 22 i ∧ mem 22 i ≤ 500) (hV1 : ∀ i : Nat, (i : Int) < mem 21 0 → 1 ≤ mem 22 i) (hPu : ∀ k : Nat, k < 8 → 0 ≤ mem 24 k ∧ mem 24 k ≤ 99) : Ret shp l yX7_pays cX7_pays 4 (some .int) 4 [pR 20, pI a, pI k] mem (fun rv mv => ∃ z, rv = some (pI z) ∧ KeepC mem mv ∧ z = if (1 ≤ a ∧ a ≤ 1000) ∧ (k = -1 ∨ 0 ≤ k ∧ k < mem 21 0) then (if fewT (fun i => (mem 22 i).toNat) (fun i => (mem 24 i).toNat) (mem 21 0).toNat a.toNat < 1000000 then (if k = -1 then fewT (fun i => (mem 22 i).toNat) (fun i => (mem 24 i).toNat) (mem 21 0).toNat a.toNat else ((takR (fun i => (mem 22 i).toNat) (fun i => (mem 24 i).toNat) (mem 21 0).toNat a.toNat k.toNat : Nat) : Int)) else -2) else -1) := by
  refine ret_of (by decide +kernel) (Nat.le_of_ble_eq_true rfl) (fun X hX F G => ?_)
  show Ok shp X 4 0 [(0, pR 20), (1, pI a), (2, pI k)] [] mem
  refine ok_iload_n F dX7_pays_0 1 rfl ?_
  refine ok_calls F [pI a] dX7_pays_1 kM_X7_isPrice kS_X7_isPrice kL_X7_127 rfl (by decide) (Nat.le_of_ble_eq_true rfl) rfl (m_X7_isPrice _ a mem (by omega)) ?_
  rintro _ _ ⟨rfl, rfl⟩
  refine ok_if_eq F 15 dX7_pays_4 (by decide) (by omega) (fun c_1 => ?_) (fun c_1 => ?_)
  · refine ok_iconst F dX7_pays_15 ?_
    refine ok_iret F G dX7_pays_16 ?_
    exact ⟨_, rfl, KeepC.rf hCI, by rw [if_neg (by omega)]⟩
  · refine ok_aload_n F dX7_pays_7 0 rfl ?_
    refine ok_iload_n F dX7_pays_8 2 rfl ?_
    refine ok_callv F [pI k] dX7_pays_9 kM_X7_isKindOrNone kI_X7_isKindOrNone kV_X7_isKindOrNone kL_X7_246 (ci := 7) rfl sh_20 rfl (by decide) (Nat.le_of_ble_eq_true rfl) rfl (m_X7_isKindOrNone _ k mem (by omega) (by omega)) ?_
    rintro _ _ ⟨rfl, rfl⟩
    refine ok_if_ne F 17 dX7_pays_12 (by decide) (by omega) (fun c_2 => ?_) (fun c_2 => ?_)
    · refine ok_aload_n F dX7_pays_17 0 rfl ?_
      refine ok_getr F dX7_pays_18 kF_X7_46 sh_20 rfl ?_
      refine ok_aload_n F dX7_pays_21 0 rfl ?_
      refine ok_getr F dX7_pays_22 kF_X7_10 sh_20 rfl ?_
      refine ok_aload_n F dX7_pays_25 0 rfl ?_
      refine ok_getr F dX7_pays_26 kF_X7_10 sh_20 rfl ?_
      refine ok_getr F dX7_pays_29 kF_X7_117 sh_21 rfl ?_
      refine ok_iload_n F dX7_pays_32 1 rfl ?_
      refine ok_callv F [pR 21, pR 24, pI a] dX7_pays_33 kM_X0_take kI_X0_take kV_X0_take kL_X7_136 (ci := 0) rfl sh_183 rfl (by decide) (Nat.le_of_ble_eq_true rfl) rfl (m_X0_take _ 24 a mem (hCI) (by omega) (hV) (hV1) (by omega) (sh_24) (by decide) (fun i hi => by have := hPu i (by omega); omega)) ?_
      rintro _ m_4 ⟨z_3, rfl, r_5⟩
      obtain ⟨k1, k2, k3⟩ := id r_5
      have k4 : (fewT (fun i => (mem 22 i).toNat) (fun i => (mem 24 i).toNat) (mem 21 0).toNat a.toNat = 1000000 ∧ z_3 = -1) ∨ (fewT (fun i => (mem 22 i).toNat) (fun i => (mem 24 i).toNat) (mem 21 0).toNat a.toNat < 1000000 ∧ z_3 = fewT (fun i => (mem 22 i).toNat) (fun i => (mem 24 i).toNat) (mem 21 0).toNat a.toNat) := k3.imp id (fun q => ⟨q.1, q.2.1⟩)
      have kb := fewT_bd (fun i => (mem 22 i).toNat) (fun i => (mem 24 i).toNat) (mem 21 0).toNat a.toNat
      refine ok_istore_n (lv' := [(3, pI z_3), (0, pR 20), (1, pI a), (2, pI k)]) F dX7_pays_36 (by decide) rfl ?_
      refine ok_iload_n F dX7_pays_37 0 rfl ?_
      refine ok_if_ge F 44 dX7_pays_38 (by decide) (by omega) (fun c_6 => ?_) (fun c_6 => ?_)
      · refine ok_iload_n F dX7_pays_44 3 rfl ?_
        refine ok_iconst F dX7_pays_45 ?_
        refine ok_icmp_ne F 53 dX7_pays_46 (by decide) (by omega) (by omega) (fun c_7 => ?_) (fun c_7 => ?_)
        · refine ok_aload_n F dX7_pays_53 1 rfl ?_
          refine ok_getr F dX7_pays_54 kF_X7_46 sh_20 rfl ?_
          refine ok_getr F dX7_pays_57 kF_X7_140 sh_183 rfl ?_
          refine ok_iload_n F dX7_pays_60 3 rfl ?_
          refine ok_iald (v := m_4 185 k.toNat) F dX7_pays_61 sh_185 (by first | decide | assumption) (by omega) (by omega) rfl ?_
          refine ok_iret F G dX7_pays_62 ?_
          refine ⟨_, rfl, ⟨fun c hc => k1 c (by omega), k2⟩, ?_⟩
          rw [if_pos (by omega)]
          first | (rw [if_pos (by omega), if_pos (by omega)]; omega) | (rw [if_pos (by omega), if_neg (by omega)]; exact (k3.resolve_left (fun q => by omega)).2.2 k.toNat (by omega))
        · refine ok_iload_n F dX7_pays_49 0 rfl ?_
          refine ok_goto F 62 dX7_pays_50 (by decide) ?_
          refine ok_iret F G dX7_pays_62 ?_
          refine ⟨_, rfl, ⟨fun c hc => k1 c (by omega), k2⟩, ?_⟩
          rw [if_pos (by omega)]
          first | (rw [if_pos (by omega), if_pos (by omega)]; omega) | (rw [if_pos (by omega), if_neg (by omega)]; exact (k3.resolve_left (fun q => by omega)).2.2 k.toNat (by omega))
      · refine ok_bipush F dX7_pays_41 rfl ?_
        refine ok_iret F G dX7_pays_43 ?_
        refine ⟨_, rfl, ⟨fun c hc => k1 c (by omega), k2⟩, ?_⟩
        rw [if_pos (by omega), if_neg (by omega)]
    · refine ok_iconst F dX7_pays_15 ?_
      refine ok_iret F G dX7_pays_16 ?_
      exact ⟨_, rfl, KeepC.rf hCI, by rw [if_neg (by omega)]⟩
theorem dX7_swap_0 : decode cX7_swap 0 = .ok (.aload_n 0, 1) := by decide +kernel
theorem dX7_swap_1 : decode cX7_swap 1 = .ok (.iload_n 1, 1) := by decide +kernel
theorem dX7_swap_2 : decode cX7_swap 2 = .ok (.invokevirtual 106, 3) := by decide +kernel
theorem dX7_swap_5 : decode cX7_swap 5 = .ok (.ifCond .eq 31, 3) := by decide +kernel
theorem dX7_swap_8 : decode cX7_swap 8 = .ok (.iload_n 2, 1) := by decide +kernel
theorem dX7_swap_9 : decode cX7_swap 9 = .ok (.iconst 1, 1) := by decide +kernel
theorem dX7_swap_10 : decode cX7_swap 10 = .ok (.if_icmp .lt 26, 3) := by decide +kernel
theorem dX7_swap_13 : decode cX7_swap 13 = .ok (.iload_n 2, 1) := by decide +kernel
theorem dX7_swap_14 : decode cX7_swap 14 = .ok (.bipush 100, 2) := by decide +kernel
theorem dX7_swap_16 : decode cX7_swap 16 = .ok (.if_icmp .ge 20, 3) := by decide +kernel
theorem dX7_swap_19 : decode cX7_swap 19 = .ok (.iload_n 2, 1) := by decide +kernel
theorem dX7_swap_20 : decode cX7_swap 20 = .ok (.aload_n 0, 1) := by decide +kernel
theorem dX7_swap_21 : decode cX7_swap 21 = .ok (.getfield 10, 3) := by decide +kernel
theorem dX7_swap_24 : decode cX7_swap 24 = .ok (.getfield 186, 3) := by decide +kernel
theorem dX7_swap_27 : decode cX7_swap 27 = .ok (.iload_n 1, 1) := by decide +kernel
theorem dX7_swap_28 : decode cX7_swap 28 = .ok (.iaload, 1) := by decide +kernel
theorem dX7_swap_29 : decode cX7_swap 29 = .ok (.imul, 1) := by decide +kernel
theorem dX7_swap_30 : decode cX7_swap 30 = .ok (.sipush 2500, 3) := by decide +kernel
theorem dX7_swap_33 : decode cX7_swap 33 = .ok (.if_icmp .le 5, 3) := by decide +kernel
theorem dX7_swap_36 : decode cX7_swap 36 = .ok (.iconst (-1), 1) := by decide +kernel
theorem dX7_swap_37 : decode cX7_swap 37 = .ok (.ireturn, 1) := by decide +kernel
theorem dX7_swap_38 : decode cX7_swap 38 = .ok (.aload_n 0, 1) := by decide +kernel
theorem dX7_swap_39 : decode cX7_swap 39 = .ok (.getfield 53, 3) := by decide +kernel
theorem dX7_swap_42 : decode cX7_swap 42 = .ok (.aload_n 0, 1) := by decide +kernel
theorem dX7_swap_43 : decode cX7_swap 43 = .ok (.getfield 10, 3) := by decide +kernel
theorem dX7_swap_46 : decode cX7_swap 46 = .ok (.aload_n 0, 1) := by decide +kernel
theorem dX7_swap_47 : decode cX7_swap 47 = .ok (.getfield 10, 3) := by decide +kernel
theorem dX7_swap_50 : decode cX7_swap 50 = .ok (.getfield 133, 3) := by decide +kernel
theorem dX7_swap_53 : decode cX7_swap 53 = .ok (.iload_n 1, 1) := by decide +kernel
theorem dX7_swap_54 : decode cX7_swap 54 = .ok (.iload_n 2, 1) := by decide +kernel
theorem dX7_swap_55 : decode cX7_swap 55 = .ok (.aload_n 0, 1) := by decide +kernel
theorem dX7_swap_56 : decode cX7_swap 56 = .ok (.getfield 10, 3) := by decide +kernel
theorem dX7_swap_59 : decode cX7_swap 59 = .ok (.getfield 186, 3) := by decide +kernel
theorem dX7_swap_62 : decode cX7_swap 62 = .ok (.iload_n 1, 1) := by decide +kernel
theorem dX7_swap_63 : decode cX7_swap 63 = .ok (.iaload, 1) := by decide +kernel
theorem dX7_swap_64 : decode cX7_swap 64 = .ok (.imul, 1) := by decide +kernel
theorem dX7_swap_65 : decode cX7_swap 65 = .ok (.invokevirtual 249, 3) := by decide +kernel
theorem dX7_swap_68 : decode cX7_swap 68 = .ok (.aload_n 0, 1) := by decide +kernel
theorem dX7_swap_69 : decode cX7_swap 69 = .ok (.getfield 53, 3) := by decide +kernel
theorem dX7_swap_72 : decode cX7_swap 72 = .ok (.iload_n 2, 1) := by decide +kernel
theorem dX7_swap_73 : decode cX7_swap 73 = .ok (.aload_n 0, 1) := by decide +kernel
theorem dX7_swap_74 : decode cX7_swap 74 = .ok (.getfield 10, 3) := by decide +kernel
theorem dX7_swap_77 : decode cX7_swap 77 = .ok (.getfield 186, 3) := by decide +kernel
theorem dX7_swap_80 : decode cX7_swap 80 = .ok (.iload_n 1, 1) := by decide +kernel
theorem dX7_swap_81 : decode cX7_swap 81 = .ok (.iaload, 1) := by decide +kernel
theorem dX7_swap_82 : decode cX7_swap 82 = .ok (.imul, 1) := by decide +kernel
theorem dX7_swap_83 : decode cX7_swap 83 = .ok (.aload_n 0, 1) := by decide +kernel
theorem dX7_swap_84 : decode cX7_swap 84 = .ok (.getfield 65, 3) := by decide +kernel
theorem dX7_swap_87 : decode cX7_swap 87 = .ok (.invokevirtual 255, 3) := by decide +kernel
theorem dX7_swap_90 : decode cX7_swap 90 = .ok (.istore_n 3, 1) := by decide +kernel
theorem dX7_swap_91 : decode cX7_swap 91 = .ok (.iload_n 3, 1) := by decide +kernel
theorem dX7_swap_92 : decode cX7_swap 92 = .ok (.ifCond .ge 6, 3) := by decide +kernel
theorem dX7_swap_95 : decode cX7_swap 95 = .ok (.bipush (-2), 2) := by decide +kernel
theorem dX7_swap_97 : decode cX7_swap 97 = .ok (.ireturn, 1) := by decide +kernel
theorem dX7_swap_98 : decode cX7_swap 98 = .ok (.aload_n 0, 1) := by decide +kernel
theorem dX7_swap_99 : decode cX7_swap 99 = .ok (.getfield 10, 3) := by decide +kernel
theorem dX7_swap_102 : decode cX7_swap 102 = .ok (.getfield 117, 3) := by decide +kernel
theorem dX7_swap_105 : decode cX7_swap 105 = .ok (.iload_n 1, 1) := by decide +kernel
theorem dX7_swap_106 : decode cX7_swap 106 = .ok (.iaload, 1) := by decide +kernel
theorem dX7_swap_107 : decode cX7_swap 107 = .ok (.iload_n 2, 1) := by decide +kernel
theorem dX7_swap_108 : decode cX7_swap 108 = .ok (.if_icmp .ge 8, 3) := by decide +kernel
theorem dX7_swap_111 : decode cX7_swap 111 = .ok (.bipush (-3), 2) := by decide +kernel
theorem dX7_swap_113 : decode cX7_swap 113 = .ok (.goto 4, 3) := by decide +kernel
theorem dX7_swap_116 : decode cX7_swap 116 = .ok (.iload_n 3, 1) := by decide +kernel
theorem dX7_swap_117 : decode cX7_swap 117 = .ok (.ireturn, 1) := by decide +kernel
set_option maxHeartbeats 4000000 in
set_option maxRecDepth 100000 in
theorem m_X7_swap (l : Launch) (k : Int) (n : Int) (mem : Mem) (hk : i32 k) (hn : i32 n) (hCI : CI mem) (hN : 0 ≤ mem 21 0 ∧ mem 21 0 ≤ 8) (hV : ∀ i : Nat, i < 8 → 0 ≤ mem 22 i ∧ mem 22 i ≤ 500) (hV1 : ∀ i : Nat, (i : Int) < mem 21 0 → 1 ≤ mem 22 i) (hTl : ∀ k : Nat, k < 8 → 0 ≤ mem 23 k ∧ mem 23 k ≤ 99) (hPu : ∀ k : Nat, k < 8 → 0 ≤ mem 24 k ∧ mem 24 k ≤ 99) : Ret shp l yX7_swap cX7_swap 4 (some .int) 4 [pR 20, pI k, pI n] mem (fun rv mv => ∃ z, rv = some (pI z) ∧ KeepC mem mv ∧ z = if (0 ≤ k ∧ k < mem 21 0) ∧ (1 ≤ n ∧ n ≤ 99) ∧ n * mem 22 k.toNat ≤ 2500 then (if fewT (fun i => (mem 22 i).toNat) (fun i => (mem 23 i).toNat) k.toNat (n * mem 22 k.toNat).toNat < 1000000 then (if mem 24 k.toNat < n then -3 else fewT (fun i => (mem 22 i).toNat) (fun i => (mem 23 i).toNat) k.toNat (n * mem 22 k.toNat).toNat) else -2) else -1) := by
  refine ret_of (by decide +kernel) (Nat.le_of_ble_eq_true rfl) (fun X hX F G => ?_)
  show Ok shp X 4 0 [(0, pR 20), (1, pI k), (2, pI n)] [] mem
  refine ok_aload_n F dX7_swap_0 0 rfl ?_
  refine ok_iload_n F dX7_swap_1 1 rfl ?_
  refine ok_callv F [pI k] dX7_swap_2 kM_X7_hasKind kI_X7_hasKind kV_X7_hasKind kL_X7_106 (ci := 7) rfl sh_20 rfl (by decide) (Nat.le_of_ble_eq_true rfl) rfl (m_X7_hasKind _ k mem (by omega) (by omega)) ?_
  rintro _ _ ⟨rfl, rfl⟩
  refine ok_if_eq F 36 dX7_swap_5 (by decide) (by omega) (fun c_1 => ?_) (fun c_1 => ?_)
  · refine ok_iconst F dX7_swap_36 ?_
    refine ok_iret F G dX7_swap_37 ?_
    exact ⟨_, rfl, KeepC.rf hCI, by rw [if_neg (by omega)]⟩
  · refine ok_iload_n F dX7_swap_8 2 rfl ?_
    refine ok_iconst F dX7_swap_9 ?_
    refine ok_icmp_lt F 36 dX7_swap_10 (by decide) (by omega) (by omega) (fun c_2 => ?_) (fun c_2 => ?_)
    · refine ok_iconst F dX7_swap_36 ?_
      refine ok_iret F G dX7_swap_37 ?_
      exact ⟨_, rfl, KeepC.rf hCI, by rw [if_neg (by omega)]⟩
    · refine ok_iload_n F dX7_swap_13 2 rfl ?_
      refine ok_bipush F dX7_swap_14 rfl ?_
      refine ok_icmp_ge F 36 dX7_swap_16 (by decide) (by omega) (by omega) (fun c_3 => ?_) (fun c_3 => ?_)
      · refine ok_iconst F dX7_swap_36 ?_
        refine ok_iret F G dX7_swap_37 ?_
        exact ⟨_, rfl, KeepC.rf hCI, by rw [if_neg (by omega)]⟩
      · have q1 := hV k.toNat (by omega)
        have q3 := mul_bd (x := n) (X := 99) (by omega) q1
        refine ok_iload_n F dX7_swap_19 2 rfl ?_
        refine ok_aload_n F dX7_swap_20 0 rfl ?_
        refine ok_getr F dX7_swap_21 kF_X7_10 sh_20 rfl ?_
        refine ok_getr F dX7_swap_24 kF_X7_186 sh_21 rfl ?_
        refine ok_iload_n F dX7_swap_27 1 rfl ?_
        refine ok_iald (v := mem 22 k.toNat) F dX7_swap_28 sh_22 (by first | decide | assumption) (by omega) (by omega) rfl ?_
        refine ok_imul F dX7_swap_29 ?_
        refine ok_sipush F dX7_swap_30 rfl ?_
        refine ok_icmp_le F 38 dX7_swap_33 (by decide) (by omega) (by omega) (fun c_4 => ?_) (fun c_4 => ?_)
        · refine ok_aload_n F dX7_swap_38 0 rfl ?_
          refine ok_getr F dX7_swap_39 kF_X7_53 sh_20 rfl ?_
          refine ok_aload_n F dX7_swap_42 0 rfl ?_
          refine ok_getr F dX7_swap_43 kF_X7_10 sh_20 rfl ?_
          refine ok_aload_n F dX7_swap_46 0 rfl ?_
          refine ok_getr F dX7_swap_47 kF_X7_10 sh_20 rfl ?_
          refine ok_getr F dX7_swap_50 kF_X7_133 sh_21 rfl ?_
          refine ok_iload_n F dX7_swap_53 1 rfl ?_
          refine ok_iload_n F dX7_swap_54 2 rfl ?_
          refine ok_aload_n F dX7_swap_55 0 rfl ?_
          refine ok_getr F dX7_swap_56 kF_X7_10 sh_20 rfl ?_
          refine ok_getr F dX7_swap_59 kF_X7_186 sh_21 rfl ?_
          refine ok_iload_n F dX7_swap_62 1 rfl ?_
          refine ok_iald (v := mem 22 k.toNat) F dX7_swap_63 sh_22 (by first | decide | assumption) (by omega) (by omega) rfl ?_
          refine ok_imul F dX7_swap_64 ?_
          refine ok_callv F [pR 21, pR 23, pI k, pI (n * (mem 22 k.toNat))] dX7_swap_65 kM_X1_layChange kI_X1_layChange kV_X1_layChange kL_X7_249 (ci := 1) rfl sh_186 rfl (by decide) (Nat.le_of_ble_eq_true rfl) rfl (m_X1_layChange _ 23 k (n * (mem 22 k.toNat)) mem (hCI.2) (by omega) (by omega) (hV) (fun i hi => hV1 i (by omega)) (sh_23) (by decide) (fun i hi => by have := hTl i (by omega); omega)) ?_
          rintro _ m_6 ⟨rfl, r_7⟩
          have hkp := LaidC.keep hCI r_7 hV
          obtain ⟨u1, ⟨T, u2, u3⟩, u4⟩ := id r_7
          have uT := u3.2.2.2.2.2.1
          refine ok_aload_n F dX7_swap_68 0 rfl ?_
          refine ok_getr F dX7_swap_69 kF_X7_53 sh_20 rfl ?_
          refine ok_iload_n F dX7_swap_72 2 rfl ?_
          refine ok_aload_n F dX7_swap_73 0 rfl ?_
          refine ok_getr F dX7_swap_74 kF_X7_10 sh_20 rfl ?_
          refine ok_getr F dX7_swap_77 kF_X7_186 sh_21 rfl ?_
          refine ok_iload_n F dX7_swap_80 1 rfl ?_
          refine ok_iald (v := mem 22 k.toNat) F dX7_swap_81 sh_22 (by first | decide | assumption) (by omega) (by omega) (by rw [(r_7.1 22 (by decide))] <;> rfl) ?_
          refine ok_imul F dX7_swap_82 ?_
          refine ok_aload_n F dX7_swap_83 0 rfl ?_
          refine ok_getr F dX7_swap_84 kF_X7_65 sh_20 rfl ?_
          refine ok_callv F [pI (n * (mem 22 k.toNat)), pR 211] dX7_swap_87 kM_X1_read kI_X1_read kV_X1_read kL_X7_255 (ci := 1) rfl sh_186 rfl (by decide) (Nat.le_of_ble_eq_true rfl) rfl (m_X1_read _ (tbC (m_6 190) (m_6 191) T) 0 T k (n * (mem 22 k.toNat)) 211 m_6 (u3) (by omega) (sh_211) (by decide)) ?_
          rintro _ m_9 ⟨z_8, rfl, r_10⟩
          obtain ⟨v1, v2, v3⟩ := id r_10
          rw [LaidC.val u4 (by omega) (by omega)] at v2
          have vb := fewT_bd (fun i => (mem 22 i).toNat) (fun i => (mem 23 i).toNat) k.toNat (n * mem 22 k.toNat).toNat
          have hk2 : KeepC mem m_9 := ⟨fun c hc => by rw [v1 c (by omega)]; exact hkp.1 c hc, hkp.2.congr (fun c c1 c2 _ _ => v1 c (by omega))⟩
          refine ok_istore_n (lv' := [(3, pI z_8), (0, pR 20), (1, pI k), (2, pI n)]) F dX7_swap_90 (by decide) rfl ?_
          refine ok_iload_n F dX7_swap_91 0 rfl ?_
          refine ok_if_ge F 98 dX7_swap_92 (by decide) (by omega) (fun c_11 => ?_) (fun c_11 => ?_)
          · have q5 := hPu k.toNat (by omega)
            refine ok_aload_n F dX7_swap_98 1 rfl ?_
            refine ok_getr F dX7_swap_99 kF_X7_10 sh_20 rfl ?_
            refine ok_getr F dX7_swap_102 kF_X7_117 sh_21 rfl ?_
            refine ok_iload_n F dX7_swap_105 2 rfl ?_
            refine ok_iald (v := mem 24 k.toNat) F dX7_swap_106 sh_24 (by first | decide | assumption) (by omega) (by omega) (by rw [(r_10.1 24 (by decide)), (r_7.1 24 (by decide))] <;> rfl) ?_
            refine ok_iload_n F dX7_swap_107 3 rfl ?_
            refine ok_icmp_ge F 116 dX7_swap_108 (by decide) (by omega) (by omega) (fun c_12 => ?_) (fun c_12 => ?_)
            · refine ok_iload_n F dX7_swap_116 0 rfl ?_
              refine ok_iret F G dX7_swap_117 ?_
              refine ⟨_, rfl, hk2, ?_⟩
              rw [if_pos (by omega), if_pos (by omega)]
              first | (rw [if_pos (by omega)]; done) | (rw [if_neg (by omega)]; omega)
            · refine ok_bipush F dX7_swap_111 rfl ?_
              refine ok_goto F 117 dX7_swap_113 (by decide) ?_
              refine ok_iret F G dX7_swap_117 ?_
              refine ⟨_, rfl, hk2, ?_⟩
              rw [if_pos (by omega), if_pos (by omega)]
              first | (rw [if_pos (by omega)]; done) | (rw [if_neg (by omega)]; omega)
          · refine ok_bipush F dX7_swap_95 rfl ?_
            refine ok_iret F G dX7_swap_97 ?_
            refine ⟨_, rfl, hk2, ?_⟩
            rw [if_pos (by omega), if_neg (by omega)]
        · refine ok_iconst F dX7_swap_36 ?_
          refine ok_iret F G dX7_swap_37 ?_
          exact ⟨_, rfl, KeepC.rf hCI, by rw [if_neg (by omega)]⟩
theorem dX7_even_0 : decode cX7_even 0 = .ok (.iload_n 1, 1) := by decide +kernel
theorem dX7_even_1 : decode cX7_even 1 = .ok (.invokestatic 243, 3) := by decide +kernel
theorem dX7_even_4 : decode cX7_even 4 = .ok (.ifCond .eq 13, 3) := by decide +kernel
theorem dX7_even_7 : decode cX7_even 7 = .ok (.iload_n 2, 1) := by decide +kernel
theorem dX7_even_8 : decode cX7_even 8 = .ok (.ifCond .lt 9, 3) := by decide +kernel
theorem dX7_even_11 : decode cX7_even 11 = .ok (.iload_n 2, 1) := by decide +kernel
theorem dX7_even_12 : decode cX7_even 12 = .ok (.bipush 20, 2) := by decide +kernel
theorem dX7_even_14 : decode cX7_even 14 = .ok (.if_icmp .le 5, 3) := by decide +kernel
theorem dX7_even_17 : decode cX7_even 17 = .ok (.iconst (-1), 1) := by decide +kernel
theorem dX7_even_18 : decode cX7_even 18 = .ok (.ireturn, 1) := by decide +kernel
theorem dX7_even_19 : decode cX7_even 19 = .ok (.aload_n 0, 1) := by decide +kernel
theorem dX7_even_20 : decode cX7_even 20 = .ok (.getfield 10, 3) := by decide +kernel
theorem dX7_even_23 : decode cX7_even 23 = .ok (.getfield 133, 3) := by decide +kernel
theorem dX7_even_26 : decode cX7_even 26 = .ok (.aload_n 0, 1) := by decide +kernel
theorem dX7_even_27 : decode cX7_even 27 = .ok (.getfield 65, 3) := by decide +kernel
theorem dX7_even_30 : decode cX7_even 30 = .ok (.invokestatic 154, 3) := by decide +kernel
theorem dX7_even_33 : decode cX7_even 33 = .ok (.aload_n 0, 1) := by decide +kernel
theorem dX7_even_34 : decode cX7_even 34 = .ok (.getfield 46, 3) := by decide +kernel
theorem dX7_even_37 : decode cX7_even 37 = .ok (.aload_n 0, 1) := by decide +kernel
theorem dX7_even_38 : decode cX7_even 38 = .ok (.getfield 10, 3) := by decide +kernel
theorem dX7_even_41 : decode cX7_even 41 = .ok (.aload_n 0, 1) := by decide +kernel
theorem dX7_even_42 : decode cX7_even 42 = .ok (.getfield 65, 3) := by decide +kernel
theorem dX7_even_45 : decode cX7_even 45 = .ok (.iload_n 1, 1) := by decide +kernel
theorem dX7_even_46 : decode cX7_even 46 = .ok (.invokevirtual 136, 3) := by decide +kernel
theorem dX7_even_49 : decode cX7_even 49 = .ok (.istore_n 3, 1) := by decide +kernel
theorem dX7_even_50 : decode cX7_even 50 = .ok (.iconst 0, 1) := by decide +kernel
theorem dX7_even_51 : decode cX7_even 51 = .ok (.istore 4, 2) := by decide +kernel
theorem dX7_even_53 : decode cX7_even 53 = .ok (.iload 4, 2) := by decide +kernel
theorem dX7_even_55 : decode cX7_even 55 = .ok (.iload_n 2, 1) := by decide +kernel
theorem dX7_even_56 : decode cX7_even 56 = .ok (.if_icmp .ge 71, 3) := by decide +kernel
theorem dX7_even_59 : decode cX7_even 59 = .ok (.iload_n 3, 1) := by decide +kernel
theorem dX7_even_60 : decode cX7_even 60 = .ok (.ifCond .lt 67, 3) := by decide +kernel
theorem dX7_even_63 : decode cX7_even 63 = .ok (.iconst 0, 1) := by decide +kernel
theorem dX7_even_64 : decode cX7_even 64 = .ok (.istore 5, 2) := by decide +kernel
theorem dX7_even_66 : decode cX7_even 66 = .ok (.iload 5, 2) := by decide +kernel
theorem dX7_even_68 : decode cX7_even 68 = .ok (.aload_n 0, 1) := by decide +kernel
theorem dX7_even_69 : decode cX7_even 69 = .ok (.getfield 10, 3) := by decide +kernel
theorem dX7_even_72 : decode cX7_even 72 = .ok (.getfield 103, 3) := by decide +kernel
theorem dX7_even_75 : decode cX7_even 75 = .ok (.if_icmp .ge 29, 3) := by decide +kernel
theorem dX7_even_78 : decode cX7_even 78 = .ok (.aload_n 0, 1) := by decide +kernel
theorem dX7_even_79 : decode cX7_even 79 = .ok (.getfield 65, 3) := by decide +kernel
theorem dX7_even_82 : decode cX7_even 82 = .ok (.iload 5, 2) := by decide +kernel
theorem dX7_even_84 : decode cX7_even 84 = .ok (.dup2, 1) := by decide +kernel
theorem dX7_even_85 : decode cX7_even 85 = .ok (.iaload, 1) := by decide +kernel
theorem dX7_even_86 : decode cX7_even 86 = .ok (.aload_n 0, 1) := by decide +kernel
theorem dX7_even_87 : decode cX7_even 87 = .ok (.getfield 46, 3) := by decide +kernel
theorem dX7_even_90 : decode cX7_even 90 = .ok (.getfield 140, 3) := by decide +kernel
theorem dX7_even_93 : decode cX7_even 93 = .ok (.iload 5, 2) := by decide +kernel
theorem dX7_even_95 : decode cX7_even 95 = .ok (.iaload, 1) := by decide +kernel
theorem dX7_even_96 : decode cX7_even 96 = .ok (.isub, 1) := by decide +kernel
theorem dX7_even_97 : decode cX7_even 97 = .ok (.iastore, 1) := by decide +kernel
theorem dX7_even_98 : decode cX7_even 98 = .ok (.iinc 5 1, 3) := by decide +kernel
theorem dX7_even_101 : decode cX7_even 101 = .ok (.goto (-35), 3) := by decide +kernel
theorem dX7_even_104 : decode cX7_even 104 = .ok (.aload_n 0, 1) := by decide +kernel
theorem dX7_even_105 : decode cX7_even 105 = .ok (.getfield 46, 3) := by decide +kernel
theorem dX7_even_108 : decode cX7_even 108 = .ok (.aload_n 0, 1) := by decide +kernel
theorem dX7_even_109 : decode cX7_even 109 = .ok (.getfield 10, 3) := by decide +kernel
theorem dX7_even_112 : decode cX7_even 112 = .ok (.aload_n 0, 1) := by decide +kernel
theorem dX7_even_113 : decode cX7_even 113 = .ok (.getfield 65, 3) := by decide +kernel
theorem dX7_even_116 : decode cX7_even 116 = .ok (.iload_n 1, 1) := by decide +kernel
theorem dX7_even_117 : decode cX7_even 117 = .ok (.invokevirtual 136, 3) := by decide +kernel
theorem dX7_even_120 : decode cX7_even 120 = .ok (.istore_n 3, 1) := by decide +kernel
theorem dX7_even_121 : decode cX7_even 121 = .ok (.iinc 4 1, 3) := by decide +kernel
theorem dX7_even_124 : decode cX7_even 124 = .ok (.goto (-71), 3) := by decide +kernel
theorem dX7_even_127 : decode cX7_even 127 = .ok (.iload_n 3, 1) := by decide +kernel
theorem dX7_even_128 : decode cX7_even 128 = .ok (.ifCond .ge 8, 3) := by decide +kernel
theorem dX7_even_131 : decode cX7_even 131 = .ok (.bipush (-2), 2) := by decide +kernel
theorem dX7_even_133 : decode cX7_even 133 = .ok (.goto 4, 3) := by decide +kernel
theorem dX7_even_136 : decode cX7_even 136 = .ok (.iload_n 3, 1) := by decide +kernel
theorem dX7_even_137 : decode cX7_even 137 = .ok (.ireturn, 1) := by decide +kernel
set_option maxHeartbeats 4000000 in
set_option maxRecDepth 100000 in
theorem m_X7_even (l : Launch) (a : Int) (t : Int) (mem : Mem) (hai : i32 a) (ht : i32 t) (hCI : CI mem) (hN : 0 ≤ mem 21 0 ∧ mem 21 0 ≤ 8) (hV : ∀ i : Nat, i < 8 → 0 ≤ mem 22 i ∧ mem 22 i ≤ 500) (hV1 : ∀ i : Nat, (i : Int) < mem 21 0 → 1 ≤ mem 22 i) (hTl : ∀ k : Nat, k < 8 → 0 ≤ mem 23 k ∧ mem 23 k ≤ 99) : Ret shp l yX7_even cX7_even 6 (some .int) 4 [pR 20, pI a, pI t] mem (fun rv mv => ∃ z, rv = some (pI z) ∧ KeepC mem mv ∧ z = if (0 ≤ a ∧ a ≤ 2500) ∧ 0 ≤ t ∧ t ≤ 20 then evenF (fun i => (mem 22 i).toNat) (mem 21 0).toNat a.toNat t.toNat (mem 23) else -1) := by
  refine ret_of (by decide +kernel) (Nat.le_of_ble_eq_true rfl) (fun X hX F G => ?_)
  show Ok shp X 6 0 [(0, pR 20), (1, pI a), (2, pI t)] [] mem
  refine ok_iload_n F dX7_even_0 1 rfl ?_
  refine ok_calls F [pI a] dX7_even_1 kM_X7_isAmount kS_X7_isAmount kL_X7_243 rfl (by decide) (Nat.le_of_ble_eq_true rfl) rfl (m_X7_isAmount _ a mem (by omega)) ?_
  rintro _ _ ⟨rfl, rfl⟩
  refine ok_if_eq F 17 dX7_even_4 (by decide) (by omega) (fun c_1 => ?_) (fun c_1 => ?_)
  · refine ok_iconst F dX7_even_17 ?_
    refine ok_iret F G dX7_even_18 ?_
    exact ⟨_, rfl, KeepC.rf hCI, by rw [if_neg (by omega)]⟩
  · refine ok_iload_n F dX7_even_7 2 rfl ?_
    refine ok_if_lt F 17 dX7_even_8 (by decide) (by omega) (fun c_2 => ?_) (fun c_2 => ?_)
    · refine ok_iconst F dX7_even_17 ?_
      refine ok_iret F G dX7_even_18 ?_
      exact ⟨_, rfl, KeepC.rf hCI, by rw [if_neg (by omega)]⟩
    · refine ok_iload_n F dX7_even_11 2 rfl ?_
      refine ok_bipush F dX7_even_12 rfl ?_
      refine ok_icmp_le F 19 dX7_even_14 (by decide) (by omega) (by omega) (fun c_3 => ?_) (fun c_3 => ?_)
      · refine ok_aload_n F dX7_even_19 0 rfl ?_
        refine ok_getr F dX7_even_20 kF_X7_10 sh_20 rfl ?_
        refine ok_getr F dX7_even_23 kF_X7_133 sh_21 rfl ?_
        refine ok_aload_n F dX7_even_26 0 rfl ?_
        refine ok_getr F dX7_even_27 kF_X7_65 sh_20 rfl ?_
        refine ok_calls F [pR 23, pR 211] dX7_even_30 kM_X7_copyRow kS_X7_copyRow kL_X7_154 rfl (by decide) (Nat.le_of_ble_eq_true rfl) rfl (m_X7_copyRow _ 23 211 mem (8) (sh_23) (sh_211) (by decide)) ?_
        rintro _ m_4 ⟨rfl, e_5⟩
        obtain ⟨m1, hm1⟩ : ∃ x, x = m_4 := ⟨_, rfl⟩
        have e1 : m1 = cpyN mem 23 0 211 0 8 := by rw [hm1]; exact e_5
        have eo : ∀ c, c ≠ 211 → m1 c = mem c := fun c hc => by rw [e1]; funext b; exact cpyN_ne hc
        have e211 : ∀ j, j < 8 → m1 211 j = mem 23 j := fun j hj => by rw [e1]; unfold cpyN; rw [if_pos (by omega), show 0 + (j - 0) = j by omega]
        have hCI1 : CI m1 := hCI.congr (fun c c1 c2 _ _ => eo c (by omega))
        refine ok_aload_n F dX7_even_33 0 rfl ?_
        refine ok_getr F dX7_even_34 kF_X7_46 sh_20 rfl ?_
        refine ok_aload_n F dX7_even_37 0 rfl ?_
        refine ok_getr F dX7_even_38 kF_X7_10 sh_20 rfl ?_
        refine ok_aload_n F dX7_even_41 0 rfl ?_
        refine ok_getr F dX7_even_42 kF_X7_65 sh_20 rfl ?_
        refine ok_iload_n F dX7_even_45 1 rfl ?_
        refine ok_callv F [pR 21, pR 211, pI a] dX7_even_46 kM_X0_take kI_X0_take kV_X0_take kL_X7_136 (ci := 0) rfl sh_183 rfl (by decide) (Nat.le_of_ble_eq_true rfl) rfl (m_X0_take _ 211 a m_4 (by rw [← hm1]; exact hCI1) (by rw [← hm1, eo 21 (by decide)]; exact hN) (by rw [← hm1, eo 22 (by decide)]; exact hV) (by rw [← hm1, eo 21 (by decide), eo 22 (by decide)]; exact hV1) (by omega) (sh_211) (by decide) (by rw [← hm1, eo 21 (by decide)]; exact fun i hi => by rw [e211 i (by omega)]; have := hTl i (by omega); omega)) ?_
        rintro _ m_7 ⟨z_6, rfl, r_8⟩
        obtain ⟨k1, k2, k3⟩ := id r_8
        rw [← hm1, eo 21 (by decide), eo 22 (by decide)] at k3
        rw [← hm1] at k1
        refine ok_istore_n (lv' := [(3, pI z_6), (0, pR 20), (1, pI a), (2, pI t)]) F dX7_even_49 (by decide) rfl ?_
        refine ok_iconst F dX7_even_50 ?_
        refine ok_istore (lv' := [(4, pI 0), (3, pI z_6), (0, pR 20), (1, pI a), (2, pI t)]) F dX7_even_51 (by decide) rfl ?_
        have hL_53 : ∀ (n_53 : Nat) (p : Int) (i : Int) (m : Mem), (0 ≤ i ∧ i ≤ t ∧ (∀ c, c < 179 → m c = mem c) ∧ CI m ∧ (∀ k : Nat, k < 8 → 0 ≤ m 211 k ∧ m 211 k ≤ 99) ∧ evenF (fun i => (mem 22 i).toNat) (mem 21 0).toNat a.toNat t.toNat (mem 23) = evenF (fun i => (mem 22 i).toNat) (mem 21 0).toNat a.toNat (t - i).toNat (m 211) ∧ (fewT (fun i => (mem 22 i).toNat) (fun i => (m 211 i).toNat) (mem 21 0).toNat a.toNat = 1000000 ∧ p = -1 ∨ fewT (fun i => (mem 22 i).toNat) (fun i => (m 211 i).toNat) (mem 21 0).toNat a.toNat < 1000000 ∧ p = fewT (fun i => (mem 22 i).toNat) (fun i => (m 211 i).toNat) (mem 21 0).toNat a.toNat ∧ ∀ j : Nat, j < 8 → m 185 j = (takR (fun i => (mem 22 i).toNat) (fun i => (m 211 i).toNat) (mem 21 0).toNat a.toNat j : Nat))) → (t - i).toNat = n_53 → Ok shp X 6 53 [(0, pR 20), (1, pI a), (2, pI t), (3, pI p), (4, pI i)] [] m := by
          intro n_53
          induction n_53 using Nat.strongRecOn with
          | _ n_53 ih_53 =>
            intro p i m hI_53 hn_53
            obtain ⟨hi0, hi1, hF, hC0, hw, he, hp⟩ := hI_53
            have h20 := hF 20 (by decide)
            have h21 := hF 21 (by decide)
            have h22 := hF 22 (by decide)
            have hp2 : (fewT (fun i => (mem 22 i).toNat) (fun i => (m 211 i).toNat) (mem 21 0).toNat a.toNat = 1000000 ∧ p = -1) ∨ (fewT (fun i => (mem 22 i).toNat) (fun i => (m 211 i).toNat) (mem 21 0).toNat a.toNat < 1000000 ∧ p = fewT (fun i => (mem 22 i).toNat) (fun i => (m 211 i).toNat) (mem 21 0).toNat a.toNat) := hp.imp id (fun q => ⟨q.1, q.2.1⟩)
            have hpb := fewT_bd (fun i => (mem 22 i).toNat) (fun i => (m 211 i).toNat) (mem 21 0).toNat a.toNat
            refine ok_iload F dX7_even_53 4 rfl ?_
            refine ok_iload_n F dX7_even_55 2 rfl ?_
            refine ok_icmp_ge F 127 dX7_even_56 (by decide) (by omega) (by omega) (fun c_9 => ?_) (fun c_9 => ?_)
            · refine ok_iload_n F dX7_even_127 3 rfl ?_
              refine ok_if_ge F 136 dX7_even_128 (by decide) (by omega) (fun c_10 => ?_) (fun c_10 => ?_)
              · refine ok_iload_n F dX7_even_136 3 rfl ?_
                refine ok_iret F G dX7_even_137 ?_
                refine ⟨_, rfl, ⟨hF, hC0⟩, ?_⟩
                rw [if_pos (by omega), he]
                by_cases g : fewT (fun i => (mem 22 i).toNat) (fun i => (m 211 i).toNat) (mem 21 0).toNat a.toNat < 1000000
                · rw [show (t - i).toNat = 0 by omega, evenF, chgF, if_pos g]; omega
                · rw [evenF_no g] <;> omega
              · refine ok_bipush F dX7_even_131 rfl ?_
                refine ok_goto F 137 dX7_even_133 (by decide) ?_
                refine ok_iret F G dX7_even_137 ?_
                refine ⟨_, rfl, ⟨hF, hC0⟩, ?_⟩
                rw [if_pos (by omega), he]
                by_cases g : fewT (fun i => (mem 22 i).toNat) (fun i => (m 211 i).toNat) (mem 21 0).toNat a.toNat < 1000000
                · rw [show (t - i).toNat = 0 by omega, evenF, chgF, if_pos g]; omega
                · rw [evenF_no g] <;> omega
            · refine ok_iload_n F dX7_even_59 3 rfl ?_
              refine ok_if_lt F 127 dX7_even_60 (by decide) (by omega) (fun c_11 => ?_) (fun c_11 => ?_)
              · refine ok_iload_n F dX7_even_127 3 rfl ?_
                refine ok_if_ge F 136 dX7_even_128 (by decide) (by omega) (fun c_12 => ?_) (fun c_12 => ?_)
                · refine ok_iload_n F dX7_even_136 3 rfl ?_
                  refine ok_iret F G dX7_even_137 ?_
                  refine ⟨_, rfl, ⟨hF, hC0⟩, ?_⟩
                  rw [if_pos (by omega), he]
                  by_cases g : fewT (fun i => (mem 22 i).toNat) (fun i => (m 211 i).toNat) (mem 21 0).toNat a.toNat < 1000000
                  · rw [show (t - i).toNat = 0 by omega, evenF, chgF, if_pos g]; omega
                  · rw [evenF_no g] <;> omega
                · refine ok_bipush F dX7_even_131 rfl ?_
                  refine ok_goto F 137 dX7_even_133 (by decide) ?_
                  refine ok_iret F G dX7_even_137 ?_
                  refine ⟨_, rfl, ⟨hF, hC0⟩, ?_⟩
                  rw [if_pos (by omega), he]
                  by_cases g : fewT (fun i => (mem 22 i).toNat) (fun i => (m 211 i).toNat) (mem 21 0).toNat a.toNat < 1000000
                  · rw [show (t - i).toNat = 0 by omega, evenF, chgF, if_pos g]; omega
                  · rw [evenF_no g] <;> omega
              · refine ok_iconst F dX7_even_63 ?_
                refine ok_istore (lv' := [(5, pI 0), (0, pR 20), (1, pI a), (2, pI t), (3, pI p), (4, pI i)]) F dX7_even_64 (by decide) rfl ?_
                have hrow := (hp.resolve_left (fun q => by omega)).2.2
                have hL_66 : ∀ (n_66 : Nat) (j : Int) (m9 : Mem), (0 ≤ j ∧ j ≤ mem 21 0 ∧ (∀ c, c ≠ 211 → m9 c = m c) ∧ ∀ k : Nat, m9 211 k = if (k : Int) < j then m 211 k - (takR (fun i => (mem 22 i).toNat) (fun i => (m 211 i).toNat) (mem 21 0).toNat a.toNat k : Nat) else m 211 k) → (mem 21 0 - j).toNat = n_66 → Ok shp X 6 66 [(0, pR 20), (1, pI a), (2, pI t), (3, pI p), (4, pI i), (5, pI j)] [] m9 := by
                  intro n_66
                  induction n_66 using Nat.strongRecOn with
                  | _ n_66 ih_66 =>
                    intro j m9 hI_66 hn_66
                    obtain ⟨hj0, hj1, hF9, h9⟩ := hI_66
                    have h920 : m9 20 = mem 20 := by rw [hF9 20 (by decide)]; exact h20
                    have h921 : m9 21 = mem 21 := by rw [hF9 21 (by decide)]; exact h21
                    have h922 : m9 22 = mem 22 := by rw [hF9 22 (by decide)]; exact h22
                    have hC9 : CI m9 := hC0.congr (fun c c1 c2 _ _ => hF9 c (by omega))
                    have hw9 : ∀ k : Nat, k < 8 → 0 ≤ m9 211 k ∧ m9 211 k ≤ 99 := fun k hk => by
                      rw [h9]
                      have a1 := hw k hk
                      by_cases g : (k : Int) < j
                      · rw [if_pos g]; have hle := (takR_rep (v := (fun i => (mem 22 i).toNat)) (c := fun i => (m 211 i).toNat) (n := (mem 21 0).toNat) (a := a.toNat) (by omega)).2.2 k (by omega); (try dsimp only at hle); omega
                      · rw [if_neg g]; exact a1
                    refine ok_iload F dX7_even_66 5 rfl ?_
                    refine ok_aload_n F dX7_even_68 0 rfl ?_
                    refine ok_getr F dX7_even_69 kF_X7_10 sh_20 rfl ?_
                    refine ok_getf (v := mem 21 0) F dX7_even_72 kF_X7_103 sh_21 rfl (by rw [h921] <;> rfl) ?_
                    refine ok_icmp_ge F 104 dX7_even_75 (by decide) (by omega) (by omega) (fun c_13 => ?_) (fun c_13 => ?_)
                    · refine ok_aload_n F dX7_even_104 0 rfl ?_
                      refine ok_getr F dX7_even_105 kF_X7_46 sh_20 rfl ?_
                      refine ok_aload_n F dX7_even_108 0 rfl ?_
                      refine ok_getr F dX7_even_109 kF_X7_10 sh_20 rfl ?_
                      refine ok_aload_n F dX7_even_112 0 rfl ?_
                      refine ok_getr F dX7_even_113 kF_X7_65 sh_20 rfl ?_
                      refine ok_iload_n F dX7_even_116 1 rfl ?_
                      refine ok_callv F [pR 21, pR 211, pI a] dX7_even_117 kM_X0_take kI_X0_take kV_X0_take kL_X7_136 (ci := 0) rfl sh_183 rfl (by decide) (Nat.le_of_ble_eq_true rfl) rfl (m_X0_take _ 211 a m9 (hC9) (by rw [h921]; exact hN) (by rw [h922]; exact hV) (by rw [h921, h922]; exact hV1) (by omega) (sh_211) (by decide) (by rw [h921]; exact fun i hi => by have := hw9 i (by omega); omega)) ?_
                      rintro _ m_15 ⟨z_14, rfl, r_16⟩
                      obtain ⟨l1, l2, l3⟩ := id r_16
                      rw [h921, h922] at l3
                      refine ok_istore_n (lv' := [(3, pI z_14), (0, pR 20), (1, pI a), (2, pI t), (4, pI i), (5, pI j)]) F dX7_even_120 (by decide) rfl ?_
                      refine ok_iinc (lv' := [(4, pI (i + 1)), (3, pI z_14), (0, pR 20), (1, pI a), (2, pI t), (5, pI j)]) F dX7_even_121 4 rfl (by decide) rfl ?_
                      refine ok_goto F 53 dX7_even_124 (by decide) ?_
                      refine ok_lvp [2, 3, 4, 1, 0] (lv' := [(0, pR 20), (1, pI a), (2, pI t), (3, pI z_14), (4, pI (i + 1))]) rfl ?_
                      refine ih_53 _ ?_ z_14 (i + 1) m_15 ?_ rfl
                      · omega
                      · have e4 : m_15 211 = m9 211 := l1 211 (by decide)
                        refine ⟨by omega, by omega, fun c hc => by rw [l1 c (by omega), hF9 c (by omega)]; exact hF c hc, l2, fun k hk => by rw [e4]; exact hw9 k hk, ?_, by rw [e4]; exact l3⟩
                        rw [he, show (t - i).toNat = (t - (i + 1)).toNat + 1 by omega, evenF_s, if_pos (by omega), e4]
                        congr 1
                        funext k
                        rw [h9, show j = mem 21 0 by omega]
                        by_cases g : (k : Int) < mem 21 0
                        · rw [if_pos g, if_pos (by omega)]
                        · rw [if_neg g, if_neg (by omega)]
                    · refine ok_aload_n F dX7_even_78 0 rfl ?_
                      refine ok_getr F dX7_even_79 kF_X7_65 sh_20 rfl ?_
                      refine ok_iload F dX7_even_82 5 rfl ?_
                      refine ok_dup2 F dX7_even_84 rfl rfl ?_
                      refine ok_iald (v := m9 211 j.toNat) F dX7_even_85 sh_211 (by first | decide | assumption) (by omega) (by omega) rfl ?_
                      refine ok_aload_n F dX7_even_86 0 rfl ?_
                      refine ok_getr F dX7_even_87 kF_X7_46 sh_20 rfl ?_
                      refine ok_getr F dX7_even_90 kF_X7_140 sh_183 rfl ?_
                      refine ok_iload F dX7_even_93 5 rfl ?_
                      refine ok_iald (v := m9 185 j.toNat) F dX7_even_95 sh_185 (by first | decide | assumption) (by omega) (by omega) rfl ?_
                      refine ok_isub F dX7_even_96 ?_
                      refine ok_iast F dX7_even_97 sh_211 (by first | decide | assumption) (by omega) (by omega) (fun m_17 e_18 => ?_)
                      refine ok_iinc (lv' := [(5, pI (j + 1)), (0, pR 20), (1, pI a), (2, pI t), (3, pI p), (4, pI i)]) F dX7_even_98 5 rfl (by decide) rfl ?_
                      refine ok_goto F 66 dX7_even_101 (by decide) ?_
                      refine ok_lvp [1, 2, 3, 4, 5, 0] (lv' := [(0, pR 20), (1, pI a), (2, pI t), (3, pI p), (4, pI i), (5, pI (j + 1))]) rfl ?_
                      refine ih_66 _ ?_ (j + 1) m_17 ?_ rfl
                      · omega
                      · refine ⟨by omega, by omega, fun c a1 => by rw [e_18, mset_nka a1]; exact hF9 c a1, fun k => ?_⟩
                        rw [e_18]
                        by_cases e : k = j.toNat
                        · subst e; rw [mset_eq, if_pos (by omega), h9, if_neg (by omega), hF9 185 (by decide), hrow _ (by omega)]
                        · rw [mset_ne (fun q => e q.2), h9]; by_cases g : (k : Int) < j
                          · rw [if_pos g, if_pos (by omega)]
                          · rw [if_neg g, if_neg (by omega)]
                refine ok_lvp [1, 2, 3, 4, 5, 0] (lv' := [(0, pR 20), (1, pI a), (2, pI t), (3, pI p), (4, pI i), (5, pI 0)]) rfl ?_
                refine hL_66 _ 0 m ?_ rfl
                exact ⟨by omega, by omega, fun _ _ => rfl, fun k => by rw [if_neg (by omega)]⟩
        refine ok_lvp [2, 3, 4, 1, 0] (lv' := [(0, pR 20), (1, pI a), (2, pI t), (3, pI z_6), (4, pI 0)]) rfl ?_
        refine hL_53 _ z_6 0 m_7 ?_ rfl
        have e3 : m_7 211 = m1 211 := k1 211 (by decide)
        refine ⟨by omega, by omega, fun c hc => by rw [k1 c (by omega)]; exact eo c (by omega), k2, fun k hk => by rw [e3, e211 k hk]; exact hTl k hk, ?_, by rw [e3]; exact k3⟩
        rw [Int.sub_zero]
        exact evenF_congr (by omega) _ (fun k hk => by rw [e3, e211 k hk])
      · refine ok_iconst F dX7_even_17 ?_
        refine ok_iret F G dX7_even_18 ?_
        exact ⟨_, rfl, KeepC.rf hCI, by rw [if_neg (by omega)]⟩
theorem dX7_dearest_0 : decode cX7_dearest 0 = .ok (.iload_n 1, 1) := by decide +kernel
theorem dX7_dearest_1 : decode cX7_dearest 1 = .ok (.ifCond .lt 8, 3) := by decide +kernel
theorem dX7_dearest_4 : decode cX7_dearest 4 = .ok (.iload_n 1, 1) := by decide +kernel
theorem dX7_dearest_5 : decode cX7_dearest 5 = .ok (.iconst 1, 1) := by decide +kernel
theorem dX7_dearest_6 : decode cX7_dearest 6 = .ok (.if_icmp .le 5, 3) := by decide +kernel
theorem dX7_dearest_9 : decode cX7_dearest 9 = .ok (.iconst (-1), 1) := by decide +kernel
theorem dX7_dearest_10 : decode cX7_dearest 10 = .ok (.ireturn, 1) := by decide +kernel
theorem dX7_dearest_11 : decode cX7_dearest 11 = .ok (.aload_n 0, 1) := by decide +kernel
theorem dX7_dearest_12 : decode cX7_dearest 12 = .ok (.getfield 53, 3) := by decide +kernel
theorem dX7_dearest_15 : decode cX7_dearest 15 = .ok (.aload_n 0, 1) := by decide +kernel
theorem dX7_dearest_16 : decode cX7_dearest 16 = .ok (.getfield 10, 3) := by decide +kernel
theorem dX7_dearest_19 : decode cX7_dearest 19 = .ok (.aload_n 0, 1) := by decide +kernel
theorem dX7_dearest_20 : decode cX7_dearest 20 = .ok (.getfield 10, 3) := by decide +kernel
theorem dX7_dearest_23 : decode cX7_dearest 23 = .ok (.getfield 133, 3) := by decide +kernel
theorem dX7_dearest_26 : decode cX7_dearest 26 = .ok (.aload_n 0, 1) := by decide +kernel
theorem dX7_dearest_27 : decode cX7_dearest 27 = .ok (.getfield 10, 3) := by decide +kernel
theorem dX7_dearest_30 : decode cX7_dearest 30 = .ok (.getfield 103, 3) := by decide +kernel
theorem dX7_dearest_33 : decode cX7_dearest 33 = .ok (.sipush 2500, 3) := by decide +kernel
theorem dX7_dearest_36 : decode cX7_dearest 36 = .ok (.invokevirtual 249, 3) := by decide +kernel
theorem dX7_dearest_39 : decode cX7_dearest 39 = .ok (.iconst 0, 1) := by decide +kernel
theorem dX7_dearest_40 : decode cX7_dearest 40 = .ok (.istore_n 2, 1) := by decide +kernel
theorem dX7_dearest_41 : decode cX7_dearest 41 = .ok (.iconst 0, 1) := by decide +kernel
theorem dX7_dearest_42 : decode cX7_dearest 42 = .ok (.istore_n 3, 1) := by decide +kernel
theorem dX7_dearest_43 : decode cX7_dearest 43 = .ok (.iconst 0, 1) := by decide +kernel
theorem dX7_dearest_44 : decode cX7_dearest 44 = .ok (.istore 4, 2) := by decide +kernel
theorem dX7_dearest_46 : decode cX7_dearest 46 = .ok (.iload 4, 2) := by decide +kernel
theorem dX7_dearest_48 : decode cX7_dearest 48 = .ok (.sipush 2500, 3) := by decide +kernel
theorem dX7_dearest_51 : decode cX7_dearest 51 = .ok (.if_icmp .gt 32, 3) := by decide +kernel
theorem dX7_dearest_54 : decode cX7_dearest 54 = .ok (.aload_n 0, 1) := by decide +kernel
theorem dX7_dearest_55 : decode cX7_dearest 55 = .ok (.getfield 53, 3) := by decide +kernel
theorem dX7_dearest_58 : decode cX7_dearest 58 = .ok (.iload 4, 2) := by decide +kernel
theorem dX7_dearest_60 : decode cX7_dearest 60 = .ok (.invokevirtual 274, 3) := by decide +kernel
theorem dX7_dearest_63 : decode cX7_dearest 63 = .ok (.istore 5, 2) := by decide +kernel
theorem dX7_dearest_65 : decode cX7_dearest 65 = .ok (.iload 5, 2) := by decide +kernel
theorem dX7_dearest_67 : decode cX7_dearest 67 = .ok (.iload_n 2, 1) := by decide +kernel
theorem dX7_dearest_68 : decode cX7_dearest 68 = .ok (.if_icmp .le 9, 3) := by decide +kernel
theorem dX7_dearest_71 : decode cX7_dearest 71 = .ok (.iload 5, 2) := by decide +kernel
theorem dX7_dearest_73 : decode cX7_dearest 73 = .ok (.istore_n 2, 1) := by decide +kernel
theorem dX7_dearest_74 : decode cX7_dearest 74 = .ok (.iload 4, 2) := by decide +kernel
theorem dX7_dearest_76 : decode cX7_dearest 76 = .ok (.istore_n 3, 1) := by decide +kernel
theorem dX7_dearest_77 : decode cX7_dearest 77 = .ok (.iinc 4 1, 3) := by decide +kernel
theorem dX7_dearest_80 : decode cX7_dearest 80 = .ok (.goto (-34), 3) := by decide +kernel
theorem dX7_dearest_83 : decode cX7_dearest 83 = .ok (.iload_n 1, 1) := by decide +kernel
theorem dX7_dearest_84 : decode cX7_dearest 84 = .ok (.ifCond .ne 7, 3) := by decide +kernel
theorem dX7_dearest_87 : decode cX7_dearest 87 = .ok (.iload_n 2, 1) := by decide +kernel
theorem dX7_dearest_88 : decode cX7_dearest 88 = .ok (.goto 4, 3) := by decide +kernel
theorem dX7_dearest_91 : decode cX7_dearest 91 = .ok (.iload_n 3, 1) := by decide +kernel
theorem dX7_dearest_92 : decode cX7_dearest 92 = .ok (.ireturn, 1) := by decide +kernel
set_option maxHeartbeats 4000000 in
set_option maxRecDepth 100000 in
theorem m_X7_dearest (l : Launch) (w : Int) (mem : Mem) (hw : i32 w) (hCI : CI mem) (hN : 0 ≤ mem 21 0 ∧ mem 21 0 ≤ 8) (hV : ∀ i : Nat, i < 8 → 0 ≤ mem 22 i ∧ mem 22 i ≤ 500) (hV1 : ∀ i : Nat, (i : Int) < mem 21 0 → 1 ≤ mem 22 i) (hTl : ∀ k : Nat, k < 8 → 0 ≤ mem 23 k ∧ mem 23 k ≤ 99) : Ret shp l yX7_dearest cX7_dearest 6 (some .int) 4 [pR 20, pI w] mem (fun rv mv => ∃ z, rv = some (pI z) ∧ KeepC mem mv ∧ z = if w = 0 then (mostF (fewT (fun i => (mem 22 i).toNat) (fun i => (mem 23 i).toNat) (mem 21 0).toNat) 2501).1 else if w = 1 then (mostF (fewT (fun i => (mem 22 i).toNat) (fun i => (mem 23 i).toNat) (mem 21 0).toNat) 2501).2 else -1) := by
  refine ret_of (by decide +kernel) (Nat.le_of_ble_eq_true rfl) (fun X hX F G => ?_)
  show Ok shp X 6 0 [(0, pR 20), (1, pI w)] [] mem
  refine ok_iload_n F dX7_dearest_0 1 rfl ?_
  refine ok_if_lt F 9 dX7_dearest_1 (by decide) (by omega) (fun c_1 => ?_) (fun c_1 => ?_)
  · refine ok_iconst F dX7_dearest_9 ?_
    refine ok_iret F G dX7_dearest_10 ?_
    exact ⟨_, rfl, KeepC.rf hCI, by rw [if_neg (by omega), if_neg (by omega)]⟩
  · refine ok_iload_n F dX7_dearest_4 1 rfl ?_
    refine ok_iconst F dX7_dearest_5 ?_
    refine ok_icmp_le F 11 dX7_dearest_6 (by decide) (by omega) (by omega) (fun c_2 => ?_) (fun c_2 => ?_)
    · refine ok_aload_n F dX7_dearest_11 0 rfl ?_
      refine ok_getr F dX7_dearest_12 kF_X7_53 sh_20 rfl ?_
      refine ok_aload_n F dX7_dearest_15 0 rfl ?_
      refine ok_getr F dX7_dearest_16 kF_X7_10 sh_20 rfl ?_
      refine ok_aload_n F dX7_dearest_19 0 rfl ?_
      refine ok_getr F dX7_dearest_20 kF_X7_10 sh_20 rfl ?_
      refine ok_getr F dX7_dearest_23 kF_X7_133 sh_21 rfl ?_
      refine ok_aload_n F dX7_dearest_26 0 rfl ?_
      refine ok_getr F dX7_dearest_27 kF_X7_10 sh_20 rfl ?_
      refine ok_getf (v := mem 21 0) F dX7_dearest_30 kF_X7_103 sh_21 rfl rfl ?_
      refine ok_sipush F dX7_dearest_33 rfl ?_
      refine ok_callv F [pR 21, pR 23, pI (mem 21 0), pI 2500] dX7_dearest_36 kM_X1_layChange kI_X1_layChange kV_X1_layChange kL_X7_249 (ci := 1) rfl sh_186 rfl (by decide) (Nat.le_of_ble_eq_true rfl) rfl (m_X1_layChange _ 23 (mem 21 0) 2500 mem (hCI.2) (by omega) (by omega) (hV) (fun i hi => hV1 i (by omega)) (sh_23) (by decide) (fun i hi => by have := hTl i (by omega); omega)) ?_
      rintro _ m_4 ⟨rfl, r_5⟩
      have hkp := LaidC.keep hCI r_5 hV
      obtain ⟨u1, ⟨T, u2, u3⟩, u4⟩ := id r_5
      have uT := u3.2.2.2.2.2.1
      refine ok_iconst F dX7_dearest_39 ?_
      refine ok_istore_n (lv' := [(2, pI 0), (0, pR 20), (1, pI w)]) F dX7_dearest_40 (by decide) rfl ?_
      refine ok_iconst F dX7_dearest_41 ?_
      refine ok_istore_n (lv' := [(3, pI 0), (2, pI 0), (0, pR 20), (1, pI w)]) F dX7_dearest_42 (by decide) rfl ?_
      refine ok_iconst F dX7_dearest_43 ?_
      refine ok_istore (lv' := [(4, pI 0), (3, pI 0), (2, pI 0), (0, pR 20), (1, pI w)]) F dX7_dearest_44 (by decide) rfl ?_
      have hL_46 : ∀ (n_46 : Nat) (b : Int) (c : Int) (a : Int), (0 ≤ a ∧ a ≤ 2501 ∧ b = (mostF (fewT (fun i => (mem 22 i).toNat) (fun i => (mem 23 i).toNat) (mem 21 0).toNat) a.toNat).1 ∧ c = (mostF (fewT (fun i => (mem 22 i).toNat) (fun i => (mem 23 i).toNat) (mem 21 0).toNat) a.toNat).2) → (2501 - a).toNat = n_46 → Ok shp X 6 46 [(0, pR 20), (1, pI w), (2, pI b), (3, pI c), (4, pI a)] [] m_4 := by
        intro n_46
        induction n_46 using Nat.strongRecOn with
        | _ n_46 ih_46 =>
          intro b c a hI_46 hn_46
          refine ok_iload F dX7_dearest_46 4 rfl ?_
          refine ok_sipush F dX7_dearest_48 rfl ?_
          refine ok_icmp_gt F 83 dX7_dearest_51 (by decide) (by omega) (by omega) (fun c_6 => ?_) (fun c_6 => ?_)
          · refine ok_iload_n F dX7_dearest_83 1 rfl ?_
            refine ok_if_ne F 91 dX7_dearest_84 (by decide) (by omega) (fun c_7 => ?_) (fun c_7 => ?_)
            · refine ok_iload_n F dX7_dearest_91 3 rfl ?_
              refine ok_iret F G dX7_dearest_92 ?_
              have ea : a.toNat = 2501 := by omega
              rw [ea] at hI_46
              refine ⟨_, rfl, hkp, ?_⟩
              first | (rw [if_pos (by omega)]; exact hI_46.2.2.1) | (rw [if_neg (by omega), if_pos (by omega)]; exact hI_46.2.2.2)
            · refine ok_iload_n F dX7_dearest_87 2 rfl ?_
              refine ok_goto F 92 dX7_dearest_88 (by decide) ?_
              refine ok_iret F G dX7_dearest_92 ?_
              have ea : a.toNat = 2501 := by omega
              rw [ea] at hI_46
              refine ⟨_, rfl, hkp, ?_⟩
              first | (rw [if_pos (by omega)]; exact hI_46.2.2.1) | (rw [if_neg (by omega), if_pos (by omega)]; exact hI_46.2.2.2)
          · have e := LaidC.val (T := T) u4 hN (a := a) (by omega)
            have hb := fewT_bd (fun i => (mem 22 i).toNat) (fun i => (mem 23 i).toNat) (mem 21 0).toNat a.toNat
            have hm := mostF_bd (f := (fewT (fun i => (mem 22 i).toNat) (fun i => (mem 23 i).toNat) (mem 21 0).toNat)) (fun x => (fewT_bd _ _ _ _).1) a.toNat
            refine ok_aload_n F dX7_dearest_54 0 rfl ?_
            refine ok_getr F dX7_dearest_55 kF_X7_53 sh_20 rfl ?_
            refine ok_iload F dX7_dearest_58 4 rfl ?_
            refine ok_callv F [pI a] dX7_dearest_60 kM_X1_piecesFor kI_X1_piecesFor kV_X1_piecesFor kL_X7_274 (ci := 1) rfl sh_186 rfl (by decide) (Nat.le_of_ble_eq_true rfl) rfl (m_X1_piecesFor _ (tbC (m_4 190) (m_4 191) T) 0 T (mem 21 0) a m_4 (u3) (by omega)) ?_
            rintro _ _ ⟨rfl, rfl⟩
            have e0 := e
            refine ok_istore (lv' := [(5, pI (if (tbC (m_4 190) (m_4 191) T) (mem 21 0).toNat a < 1000000 then (tbC (m_4 190) (m_4 191) T) (mem 21 0).toNat a else -1)), (0, pR 20), (1, pI w), (2, pI b), (3, pI c), (4, pI a)]) F dX7_dearest_63 (by decide) rfl ?_
            refine ok_iload F dX7_dearest_65 0 rfl ?_
            refine ok_iload_n F dX7_dearest_67 3 rfl ?_
            refine ok_icmp_le F 77 dX7_dearest_68 (by decide) (by omega) (by omega) (fun c_8 => ?_) (fun c_8 => ?_)
            · refine ok_iinc (lv' := [(4, pI (a + 1)), (5, pI (if (tbC (m_4 190) (m_4 191) T) (mem 21 0).toNat a < 1000000 then (tbC (m_4 190) (m_4 191) T) (mem 21 0).toNat a else -1)), (0, pR 20), (1, pI w), (2, pI b), (3, pI c)]) F dX7_dearest_77 5 rfl (by decide) rfl ?_
              refine ok_goto F 46 dX7_dearest_80 (by decide) ?_
              refine ok_lvp [2, 3, 4, 5, 0] (lv' := [(0, pR 20), (1, pI w), (2, pI b), (3, pI c), (4, pI (a + 1))]) rfl ?_
              refine ih_46 _ ?_ b c (a + 1) ?_ rfl
              · omega
              · try generalize hy : (if tbC (m_4 190) (m_4 191) T (mem 21 0).toNat a < 1000000 then tbC (m_4 190) (m_4 191) T (mem 21 0).toNat a else -1) = y at *
                refine ⟨by omega, by omega, ?_, ?_⟩
                all_goals rw [mostF_s _ hI_46.1]
                all_goals first
                  | (rw [if_neg (by omega)]; omega)
                  | (rw [if_pos (by omega)] <;> (try dsimp only) <;> omega)
            · refine ok_iload F dX7_dearest_71 0 rfl ?_
              refine ok_istore_n (lv' := [(2, pI (if (tbC (m_4 190) (m_4 191) T) (mem 21 0).toNat a < 1000000 then (tbC (m_4 190) (m_4 191) T) (mem 21 0).toNat a else -1)), (5, pI (if (tbC (m_4 190) (m_4 191) T) (mem 21 0).toNat a < 1000000 then (tbC (m_4 190) (m_4 191) T) (mem 21 0).toNat a else -1)), (0, pR 20), (1, pI w), (3, pI c), (4, pI a)]) F dX7_dearest_73 (by decide) rfl ?_
              refine ok_iload F dX7_dearest_74 5 rfl ?_
              refine ok_istore_n (lv' := [(3, pI a), (2, pI (if (tbC (m_4 190) (m_4 191) T) (mem 21 0).toNat a < 1000000 then (tbC (m_4 190) (m_4 191) T) (mem 21 0).toNat a else -1)), (5, pI (if (tbC (m_4 190) (m_4 191) T) (mem 21 0).toNat a < 1000000 then (tbC (m_4 190) (m_4 191) T) (mem 21 0).toNat a else -1)), (0, pR 20), (1, pI w), (4, pI a)]) F dX7_dearest_76 (by decide) rfl ?_
              refine ok_iinc (lv' := [(4, pI (a + 1)), (3, pI a), (2, pI (if (tbC (m_4 190) (m_4 191) T) (mem 21 0).toNat a < 1000000 then (tbC (m_4 190) (m_4 191) T) (mem 21 0).toNat a else -1)), (5, pI (if (tbC (m_4 190) (m_4 191) T) (mem 21 0).toNat a < 1000000 then (tbC (m_4 190) (m_4 191) T) (mem 21 0).toNat a else -1)), (0, pR 20), (1, pI w)]) F dX7_dearest_77 5 rfl (by decide) rfl ?_
              refine ok_goto F 46 dX7_dearest_80 (by decide) ?_
              refine ok_lvp [4, 5, 2, 1, 0] (lv' := [(0, pR 20), (1, pI w), (2, pI (if (tbC (m_4 190) (m_4 191) T) (mem 21 0).toNat a < 1000000 then (tbC (m_4 190) (m_4 191) T) (mem 21 0).toNat a else -1)), (3, pI a), (4, pI (a + 1))]) rfl ?_
              refine ih_46 _ ?_ (if (tbC (m_4 190) (m_4 191) T) (mem 21 0).toNat a < 1000000 then (tbC (m_4 190) (m_4 191) T) (mem 21 0).toNat a else -1) a (a + 1) ?_ rfl
              · omega
              · try generalize hy : (if tbC (m_4 190) (m_4 191) T (mem 21 0).toNat a < 1000000 then tbC (m_4 190) (m_4 191) T (mem 21 0).toNat a else -1) = y at *
                refine ⟨by omega, by omega, ?_, ?_⟩
                all_goals rw [mostF_s _ hI_46.1]
                all_goals first
                  | (rw [if_neg (by omega)]; omega)
                  | (rw [if_pos (by omega)] <;> (try dsimp only) <;> omega)
      refine ok_lvp [3, 4, 2, 1, 0] (lv' := [(0, pR 20), (1, pI w), (2, pI 0), (3, pI 0), (4, pI 0)]) rfl ?_
      refine hL_46 _ 0 0 0 ?_ rfl
      exact ⟨by omega, by omega, rfl, rfl⟩
    · refine ok_iconst F dX7_dearest_9 ?_
      refine ok_iret F G dX7_dearest_10 ?_
      exact ⟨_, rfl, KeepC.rf hCI, by rw [if_neg (by omega), if_neg (by omega)]⟩
theorem dX7_greedyPieces_0 : decode cX7_greedyPieces 0 = .ok (.iload_n 1, 1) := by decide +kernel
theorem dX7_greedyPieces_1 : decode cX7_greedyPieces 1 = .ok (.istore_n 2, 1) := by decide +kernel
theorem dX7_greedyPieces_2 : decode cX7_greedyPieces 2 = .ok (.iconst 0, 1) := by decide +kernel
theorem dX7_greedyPieces_3 : decode cX7_greedyPieces 3 = .ok (.istore_n 3, 1) := by decide +kernel
theorem dX7_greedyPieces_4 : decode cX7_greedyPieces 4 = .ok (.aload_n 0, 1) := by decide +kernel
theorem dX7_greedyPieces_5 : decode cX7_greedyPieces 5 = .ok (.getfield 10, 3) := by decide +kernel
theorem dX7_greedyPieces_8 : decode cX7_greedyPieces 8 = .ok (.getfield 103, 3) := by decide +kernel
theorem dX7_greedyPieces_11 : decode cX7_greedyPieces 11 = .ok (.iconst 1, 1) := by decide +kernel
theorem dX7_greedyPieces_12 : decode cX7_greedyPieces 12 = .ok (.isub, 1) := by decide +kernel
theorem dX7_greedyPieces_13 : decode cX7_greedyPieces 13 = .ok (.istore 4, 2) := by decide +kernel
theorem dX7_greedyPieces_15 : decode cX7_greedyPieces 15 = .ok (.iload 4, 2) := by decide +kernel
theorem dX7_greedyPieces_17 : decode cX7_greedyPieces 17 = .ok (.ifCond .lt 62, 3) := by decide +kernel
theorem dX7_greedyPieces_20 : decode cX7_greedyPieces 20 = .ok (.aload_n 0, 1) := by decide +kernel
theorem dX7_greedyPieces_21 : decode cX7_greedyPieces 21 = .ok (.getfield 10, 3) := by decide +kernel
theorem dX7_greedyPieces_24 : decode cX7_greedyPieces 24 = .ok (.getfield 186, 3) := by decide +kernel
theorem dX7_greedyPieces_27 : decode cX7_greedyPieces 27 = .ok (.iload 4, 2) := by decide +kernel
theorem dX7_greedyPieces_29 : decode cX7_greedyPieces 29 = .ok (.iaload, 1) := by decide +kernel
theorem dX7_greedyPieces_30 : decode cX7_greedyPieces 30 = .ok (.istore 5, 2) := by decide +kernel
theorem dX7_greedyPieces_32 : decode cX7_greedyPieces 32 = .ok (.iload 5, 2) := by decide +kernel
theorem dX7_greedyPieces_34 : decode cX7_greedyPieces 34 = .ok (.iconst 1, 1) := by decide +kernel
theorem dX7_greedyPieces_35 : decode cX7_greedyPieces 35 = .ok (.if_icmp .ge 6, 3) := by decide +kernel
theorem dX7_greedyPieces_41 : decode cX7_greedyPieces 41 = .ok (.aload_n 0, 1) := by decide +kernel
theorem dX7_greedyPieces_42 : decode cX7_greedyPieces 42 = .ok (.getfield 10, 3) := by decide +kernel
theorem dX7_greedyPieces_45 : decode cX7_greedyPieces 45 = .ok (.getfield 133, 3) := by decide +kernel
theorem dX7_greedyPieces_48 : decode cX7_greedyPieces 48 = .ok (.iload 4, 2) := by decide +kernel
theorem dX7_greedyPieces_50 : decode cX7_greedyPieces 50 = .ok (.iaload, 1) := by decide +kernel
theorem dX7_greedyPieces_51 : decode cX7_greedyPieces 51 = .ok (.iload_n 2, 1) := by decide +kernel
theorem dX7_greedyPieces_52 : decode cX7_greedyPieces 52 = .ok (.iload 5, 2) := by decide +kernel
theorem dX7_greedyPieces_54 : decode cX7_greedyPieces 54 = .ok (.idiv, 1) := by decide +kernel
theorem dX7_greedyPieces_55 : decode cX7_greedyPieces 55 = .ok (.invokestatic 206, 3) := by decide +kernel
theorem dX7_greedyPieces_58 : decode cX7_greedyPieces 58 = .ok (.istore 6, 2) := by decide +kernel
theorem dX7_greedyPieces_60 : decode cX7_greedyPieces 60 = .ok (.iload_n 2, 1) := by decide +kernel
theorem dX7_greedyPieces_61 : decode cX7_greedyPieces 61 = .ok (.iload 6, 2) := by decide +kernel
theorem dX7_greedyPieces_63 : decode cX7_greedyPieces 63 = .ok (.iload 5, 2) := by decide +kernel
theorem dX7_greedyPieces_65 : decode cX7_greedyPieces 65 = .ok (.imul, 1) := by decide +kernel
theorem dX7_greedyPieces_66 : decode cX7_greedyPieces 66 = .ok (.isub, 1) := by decide +kernel
theorem dX7_greedyPieces_67 : decode cX7_greedyPieces 67 = .ok (.istore_n 2, 1) := by decide +kernel
theorem dX7_greedyPieces_68 : decode cX7_greedyPieces 68 = .ok (.iload_n 3, 1) := by decide +kernel
theorem dX7_greedyPieces_69 : decode cX7_greedyPieces 69 = .ok (.iload 6, 2) := by decide +kernel
theorem dX7_greedyPieces_71 : decode cX7_greedyPieces 71 = .ok (.iadd, 1) := by decide +kernel
theorem dX7_greedyPieces_72 : decode cX7_greedyPieces 72 = .ok (.istore_n 3, 1) := by decide +kernel
theorem dX7_greedyPieces_73 : decode cX7_greedyPieces 73 = .ok (.iinc 4 (-1), 3) := by decide +kernel
theorem dX7_greedyPieces_76 : decode cX7_greedyPieces 76 = .ok (.goto (-61), 3) := by decide +kernel
theorem dX7_greedyPieces_79 : decode cX7_greedyPieces 79 = .ok (.iload_n 2, 1) := by decide +kernel
theorem dX7_greedyPieces_80 : decode cX7_greedyPieces 80 = .ok (.ifCond .ne 7, 3) := by decide +kernel
theorem dX7_greedyPieces_83 : decode cX7_greedyPieces 83 = .ok (.iload_n 3, 1) := by decide +kernel
theorem dX7_greedyPieces_84 : decode cX7_greedyPieces 84 = .ok (.goto 4, 3) := by decide +kernel
theorem dX7_greedyPieces_87 : decode cX7_greedyPieces 87 = .ok (.iconst (-1), 1) := by decide +kernel
theorem dX7_greedyPieces_88 : decode cX7_greedyPieces 88 = .ok (.ireturn, 1) := by decide +kernel
set_option maxHeartbeats 4000000 in
set_option maxRecDepth 100000 in
theorem m_X7_greedyPieces (l : Launch) (a : Int) (mem : Mem) (ha : 0 ≤ a ∧ a ≤ 2500) (hN : 0 ≤ mem 21 0 ∧ mem 21 0 ≤ 8) (hV : ∀ i : Nat, i < 8 → 0 ≤ mem 22 i ∧ mem 22 i ≤ 500) (hV1 : ∀ i : Nat, (i : Int) < mem 21 0 → 1 ≤ mem 22 i) (hTl : ∀ k : Nat, k < 8 → 0 ≤ mem 23 k ∧ mem 23 k ≤ 99) : Ret shp l yX7_greedyPieces cX7_greedyPieces 7 (some .int) 1 [pR 20, pI a] mem (fun rv mv => rv = some (pI (if (grL (fun i => (mem 22 i).toNat) (fun i => (mem 23 i).toNat) (mem 21 0).toNat a.toNat 0).1 = 0 then (((grL (fun i => (mem 22 i).toNat) (fun i => (mem 23 i).toNat) (mem 21 0).toNat a.toNat 0).2 : Nat) : Int) else -1)) ∧ mem = mv) := by
  refine ret_of (by decide +kernel) (Nat.le_of_ble_eq_true rfl) (fun X hX F G => ?_)
  show Ok shp X 7 0 [(0, pR 20), (1, pI a)] [] mem
  refine ok_iload_n F dX7_greedyPieces_0 1 rfl ?_
  refine ok_istore_n (lv' := [(2, pI a), (0, pR 20), (1, pI a)]) F dX7_greedyPieces_1 (by decide) rfl ?_
  refine ok_iconst F dX7_greedyPieces_2 ?_
  refine ok_istore_n (lv' := [(3, pI 0), (2, pI a), (0, pR 20), (1, pI a)]) F dX7_greedyPieces_3 (by decide) rfl ?_
  refine ok_aload_n F dX7_greedyPieces_4 2 rfl ?_
  refine ok_getr F dX7_greedyPieces_5 kF_X7_10 sh_20 rfl ?_
  refine ok_getf (v := mem 21 0) F dX7_greedyPieces_8 kF_X7_103 sh_21 rfl rfl ?_
  refine ok_iconst F dX7_greedyPieces_11 ?_
  refine ok_isub F dX7_greedyPieces_12 ?_
  refine ok_istore (lv' := [(4, pI ((mem 21 0) - 1)), (3, pI 0), (2, pI a), (0, pR 20), (1, pI a)]) F dX7_greedyPieces_13 (by decide) rfl ?_
  have hL_15 : ∀ (n_15 : Nat) (L : Int) (n : Int) (k : Int), (-1 ≤ k ∧ k < mem 21 0 ∧ 0 ≤ L ∧ 0 ≤ n ∧ n + L ≤ a ∧ grL (fun i => (mem 22 i).toNat) (fun i => (mem 23 i).toNat) (mem 21 0).toNat a.toNat 0 = grL (fun i => (mem 22 i).toNat) (fun i => (mem 23 i).toNat) (k + 1).toNat L.toNat n.toNat) → (k + 1).toNat = n_15 → Ok shp X 7 15 [(0, pR 20), (1, pI a), (2, pI L), (3, pI n), (4, pI k)] [] mem := by
    intro n_15
    induction n_15 using Nat.strongRecOn with
    | _ n_15 ih_15 =>
      intro L n k hI_15 hn_15
      obtain ⟨hk0, hk1, hL0, hn0, hnL, hg⟩ := hI_15
      refine ok_iload F dX7_greedyPieces_15 4 rfl ?_
      refine ok_if_lt F 79 dX7_greedyPieces_17 (by decide) (by omega) (fun c_1 => ?_) (fun c_1 => ?_)
      · refine ok_iload_n F dX7_greedyPieces_79 2 rfl ?_
        refine ok_if_ne F 87 dX7_greedyPieces_80 (by decide) (by omega) (fun c_2 => ?_) (fun c_2 => ?_)
        · refine ok_iconst F dX7_greedyPieces_87 ?_
          refine ok_iret F G dX7_greedyPieces_88 ?_
          have ek : (k + 1).toNat = 0 := by omega
          rw [ek] at hg
          refine ⟨?_, rfl⟩
          rw [hg]
          show _ = some (pI (if L.toNat = 0 then ((n.toNat : Nat) : Int) else -1))
          first | (rw [if_pos (by omega), show ((n.toNat : Nat) : Int) = n by omega]; done) | (rw [if_neg (by omega)]; done)
        · refine ok_iload_n F dX7_greedyPieces_83 3 rfl ?_
          refine ok_goto F 88 dX7_greedyPieces_84 (by decide) ?_
          refine ok_iret F G dX7_greedyPieces_88 ?_
          have ek : (k + 1).toNat = 0 := by omega
          rw [ek] at hg
          refine ⟨?_, rfl⟩
          rw [hg]
          show _ = some (pI (if L.toNat = 0 then ((n.toNat : Nat) : Int) else -1))
          first | (rw [if_pos (by omega), show ((n.toNat : Nat) : Int) = n by omega]; done) | (rw [if_neg (by omega)]; done)
      · have q1 := hTl k.toNat (by omega)
        have q2 := hV k.toNat (by omega)
        have q3 := hV1 k.toNat (by omega)
        refine ok_aload_n F dX7_greedyPieces_20 0 rfl ?_
        refine ok_getr F dX7_greedyPieces_21 kF_X7_10 sh_20 rfl ?_
        refine ok_getr F dX7_greedyPieces_24 kF_X7_186 sh_21 rfl ?_
        refine ok_iload F dX7_greedyPieces_27 4 rfl ?_
        refine ok_iald (v := mem 22 k.toNat) F dX7_greedyPieces_29 sh_22 (by first | decide | assumption) (by omega) (by omega) rfl ?_
        refine ok_istore (lv' := [(5, pI (mem 22 k.toNat)), (0, pR 20), (1, pI a), (2, pI L), (3, pI n), (4, pI k)]) F dX7_greedyPieces_30 (by decide) rfl ?_
        refine ok_iload F dX7_greedyPieces_32 0 rfl ?_
        refine ok_iconst F dX7_greedyPieces_34 ?_
        refine ok_icmp_ge F 41 dX7_greedyPieces_35 (by decide) (by omega) (by omega) (fun c_3 => ?_) (fun c_3 => ?_)
        · refine ok_aload_n F dX7_greedyPieces_41 1 rfl ?_
          refine ok_getr F dX7_greedyPieces_42 kF_X7_10 sh_20 rfl ?_
          refine ok_getr F dX7_greedyPieces_45 kF_X7_133 sh_21 rfl ?_
          refine ok_iload F dX7_greedyPieces_48 5 rfl ?_
          refine ok_iald (v := mem 23 k.toNat) F dX7_greedyPieces_50 sh_23 (by first | decide | assumption) (by omega) (by omega) rfl ?_
          refine ok_iload_n F dX7_greedyPieces_51 3 rfl ?_
          refine ok_iload F dX7_greedyPieces_52 0 rfl ?_
          refine ok_idiv F dX7_greedyPieces_54 (by omega) (by omega) (by omega) ?_
          obtain ⟨vk, hvd⟩ : ∃ x, x = (fun i => (mem 22 i).toNat) k.toNat := ⟨_, rfl⟩
          have hvk : mem 22 k.toNat = (vk : Int) := by rw [hvd]; show _ = (((mem 22 k.toNat).toNat : Nat) : Int); omega
          obtain ⟨qd, hqd⟩ : ∃ x, x = L.toNat / vk := ⟨_, rfl⟩
          have hdv : L.tdiv (mem 22 k.toNat) = (qd : Int) := by rw [hvk, Int.tdiv_eq_ediv_of_nonneg hL0, hqd, Int.natCast_ediv, show ((L.toNat : Nat) : Int) = L by omega]
          have hdm : qd * vk ≤ L.toNat := by rw [hqd]; exact Nat.div_mul_le_self _ _
          have hdl : qd ≤ L.toNat := by rw [hqd]; exact Nat.div_le_self _ _
          obtain ⟨z, hzd0⟩ : ∃ x, x = min (mem 23 k.toNat).toNat qd := ⟨_, rfl⟩
          have hz : min (mem 23 k.toNat) (L.tdiv (mem 22 k.toNat)) = (z : Int) := by rw [hdv]; omega
          have hzv : z * vk ≤ qd * vk := Nat.mul_le_mul_right vk (by omega)
          have hzz : z ≤ z * vk := Nat.le_mul_of_pos_right z (by omega)
          have hzi : (z : Int) * mem 22 k.toNat = ((z * vk : Nat) : Int) := by rw [hvk, Int.natCast_mul]
          have hzd : z = min ((fun i => (mem 23 i).toNat) k.toNat) (L.toNat / (fun i => (mem 22 i).toNat) k.toNat) := by rw [hzd0, hqd, hvd]
          have hmz : min (mem 23 k.toNat) (L.tdiv (mem 22 k.toNat)) * mem 22 k.toNat = ((z * vk : Nat) : Int) := by rw [hz, hzi]
          refine ok_mmin F dX7_greedyPieces_55 kL_X7_206 kS_J9_min_7cf53 kM_J9_min_7cf53.2.1 kM_J9_min_7cf53.2.2.1 (by omega) (by omega) (by decide) (Nat.le_of_ble_eq_true rfl) ?_
          refine ok_istore (lv' := [(6, pI (min (mem 23 k.toNat) (L.tdiv (mem 22 k.toNat)))), (5, pI (mem 22 k.toNat)), (0, pR 20), (1, pI a), (2, pI L), (3, pI n), (4, pI k)]) F dX7_greedyPieces_58 (by decide) rfl ?_
          refine ok_iload_n F dX7_greedyPieces_60 4 rfl ?_
          refine ok_iload F dX7_greedyPieces_61 0 rfl ?_
          refine ok_iload F dX7_greedyPieces_63 1 rfl ?_
          refine ok_imul F dX7_greedyPieces_65 ?_
          refine ok_isub F dX7_greedyPieces_66 ?_
          refine ok_istore_n (lv' := [(2, pI (L - ((min (mem 23 k.toNat) (L.tdiv (mem 22 k.toNat))) * (mem 22 k.toNat)))), (6, pI (min (mem 23 k.toNat) (L.tdiv (mem 22 k.toNat)))), (5, pI (mem 22 k.toNat)), (0, pR 20), (1, pI a), (3, pI n), (4, pI k)]) F dX7_greedyPieces_67 (by decide) rfl ?_
          refine ok_iload_n F dX7_greedyPieces_68 5 rfl ?_
          refine ok_iload F dX7_greedyPieces_69 1 rfl ?_
          refine ok_iadd F dX7_greedyPieces_71 ?_
          refine ok_istore_n (lv' := [(3, pI (n + (min (mem 23 k.toNat) (L.tdiv (mem 22 k.toNat))))), (2, pI (L - ((min (mem 23 k.toNat) (L.tdiv (mem 22 k.toNat))) * (mem 22 k.toNat)))), (6, pI (min (mem 23 k.toNat) (L.tdiv (mem 22 k.toNat)))), (5, pI (mem 22 k.toNat)), (0, pR 20), (1, pI a), (4, pI k)]) F dX7_greedyPieces_72 (by decide) rfl ?_
          refine ok_iinc (lv' := [(4, pI (k + (-1))), (3, pI (n + (min (mem 23 k.toNat) (L.tdiv (mem 22 k.toNat))))), (2, pI (L - ((min (mem 23 k.toNat) (L.tdiv (mem 22 k.toNat))) * (mem 22 k.toNat)))), (6, pI (min (mem 23 k.toNat) (L.tdiv (mem 22 k.toNat)))), (5, pI (mem 22 k.toNat)), (0, pR 20), (1, pI a)]) F dX7_greedyPieces_73 6 rfl (by decide) rfl ?_
          refine ok_goto F 15 dX7_greedyPieces_76 (by decide) ?_
          refine ok_lvp [5, 6, 2, 1, 0] (lv' := [(0, pR 20), (1, pI a), (2, pI (L - ((min (mem 23 k.toNat) (L.tdiv (mem 22 k.toNat))) * (mem 22 k.toNat)))), (3, pI (n + (min (mem 23 k.toNat) (L.tdiv (mem 22 k.toNat))))), (4, pI (k + (-1)))]) rfl ?_
          refine ih_15 _ ?_ (L - ((min (mem 23 k.toNat) (L.tdiv (mem 22 k.toNat))) * (mem 22 k.toNat))) (n + (min (mem 23 k.toNat) (L.tdiv (mem 22 k.toNat)))) (k + (-1)) ?_ rfl
          · omega
          · refine ⟨by omega, by omega, by omega, by omega, by omega, ?_⟩
            rw [hg, show (k + 1).toNat = k.toNat + 1 by omega, grL_s, show (k + -1 + 1).toNat = k.toNat by omega]
            rw [hz, show (L - (z : Int) * mem 22 k.toNat).toNat = L.toNat - z * vk by omega, show (n + (z : Int)).toNat = n.toNat + z by omega, hzd, hvd]
        · exfalso; omega
  refine ok_lvp [3, 4, 2, 1, 0] (lv' := [(0, pR 20), (1, pI a), (2, pI a), (3, pI 0), (4, pI ((mem 21 0) - 1))]) rfl ?_
  refine hL_15 _ a 0 ((mem 21 0) - 1) ?_ rfl
  exact ⟨by omega, by omega, by omega, by omega, by omega, by rw [show (mem 21 0 - 1 + 1).toNat = (mem 21 0).toNat by omega]; rfl⟩
theorem dX7_greedy_0 : decode cX7_greedy 0 = .ok (.iload_n 1, 1) := by decide +kernel
theorem dX7_greedy_1 : decode cX7_greedy 1 = .ok (.ifCond .lt 8, 3) := by decide +kernel
theorem dX7_greedy_4 : decode cX7_greedy 4 = .ok (.iload_n 1, 1) := by decide +kernel
theorem dX7_greedy_5 : decode cX7_greedy 5 = .ok (.iconst 1, 1) := by decide +kernel
theorem dX7_greedy_6 : decode cX7_greedy 6 = .ok (.if_icmp .le 5, 3) := by decide +kernel
theorem dX7_greedy_9 : decode cX7_greedy 9 = .ok (.iconst (-1), 1) := by decide +kernel
theorem dX7_greedy_10 : decode cX7_greedy 10 = .ok (.ireturn, 1) := by decide +kernel
theorem dX7_greedy_11 : decode cX7_greedy 11 = .ok (.aload_n 0, 1) := by decide +kernel
theorem dX7_greedy_12 : decode cX7_greedy 12 = .ok (.getfield 53, 3) := by decide +kernel
theorem dX7_greedy_15 : decode cX7_greedy 15 = .ok (.aload_n 0, 1) := by decide +kernel
theorem dX7_greedy_16 : decode cX7_greedy 16 = .ok (.getfield 10, 3) := by decide +kernel
theorem dX7_greedy_19 : decode cX7_greedy 19 = .ok (.aload_n 0, 1) := by decide +kernel
theorem dX7_greedy_20 : decode cX7_greedy 20 = .ok (.getfield 10, 3) := by decide +kernel
theorem dX7_greedy_23 : decode cX7_greedy 23 = .ok (.getfield 133, 3) := by decide +kernel
theorem dX7_greedy_26 : decode cX7_greedy 26 = .ok (.aload_n 0, 1) := by decide +kernel
theorem dX7_greedy_27 : decode cX7_greedy 27 = .ok (.getfield 10, 3) := by decide +kernel
theorem dX7_greedy_30 : decode cX7_greedy 30 = .ok (.getfield 103, 3) := by decide +kernel
theorem dX7_greedy_33 : decode cX7_greedy 33 = .ok (.sipush 2500, 3) := by decide +kernel
theorem dX7_greedy_36 : decode cX7_greedy 36 = .ok (.invokevirtual 249, 3) := by decide +kernel
theorem dX7_greedy_39 : decode cX7_greedy 39 = .ok (.bipush (-2), 2) := by decide +kernel
theorem dX7_greedy_41 : decode cX7_greedy 41 = .ok (.istore_n 2, 1) := by decide +kernel
theorem dX7_greedy_42 : decode cX7_greedy 42 = .ok (.iconst 0, 1) := by decide +kernel
theorem dX7_greedy_43 : decode cX7_greedy 43 = .ok (.istore_n 3, 1) := by decide +kernel
theorem dX7_greedy_44 : decode cX7_greedy 44 = .ok (.iconst 0, 1) := by decide +kernel
theorem dX7_greedy_45 : decode cX7_greedy 45 = .ok (.istore 4, 2) := by decide +kernel
theorem dX7_greedy_47 : decode cX7_greedy 47 = .ok (.iload 4, 2) := by decide +kernel
theorem dX7_greedy_49 : decode cX7_greedy 49 = .ok (.sipush 2500, 3) := by decide +kernel
theorem dX7_greedy_52 : decode cX7_greedy 52 = .ok (.if_icmp .gt 50, 3) := by decide +kernel
theorem dX7_greedy_55 : decode cX7_greedy 55 = .ok (.aload_n 0, 1) := by decide +kernel
theorem dX7_greedy_56 : decode cX7_greedy 56 = .ok (.getfield 53, 3) := by decide +kernel
theorem dX7_greedy_59 : decode cX7_greedy 59 = .ok (.iload 4, 2) := by decide +kernel
theorem dX7_greedy_61 : decode cX7_greedy 61 = .ok (.invokevirtual 274, 3) := by decide +kernel
theorem dX7_greedy_64 : decode cX7_greedy 64 = .ok (.istore 5, 2) := by decide +kernel
theorem dX7_greedy_66 : decode cX7_greedy 66 = .ok (.iload 5, 2) := by decide +kernel
theorem dX7_greedy_68 : decode cX7_greedy 68 = .ok (.ifCond .lt 28, 3) := by decide +kernel
theorem dX7_greedy_71 : decode cX7_greedy 71 = .ok (.iload 5, 2) := by decide +kernel
theorem dX7_greedy_73 : decode cX7_greedy 73 = .ok (.aload_n 0, 1) := by decide +kernel
theorem dX7_greedy_74 : decode cX7_greedy 74 = .ok (.iload 4, 2) := by decide +kernel
theorem dX7_greedy_76 : decode cX7_greedy 76 = .ok (.invokevirtual 281, 3) := by decide +kernel
theorem dX7_greedy_79 : decode cX7_greedy 79 = .ok (.if_icmp .eq 17, 3) := by decide +kernel
theorem dX7_greedy_82 : decode cX7_greedy 82 = .ok (.iload_n 3, 1) := by decide +kernel
theorem dX7_greedy_83 : decode cX7_greedy 83 = .ok (.ifCond .ne 8, 3) := by decide +kernel
theorem dX7_greedy_86 : decode cX7_greedy 86 = .ok (.iload 4, 2) := by decide +kernel
theorem dX7_greedy_88 : decode cX7_greedy 88 = .ok (.goto 4, 3) := by decide +kernel
theorem dX7_greedy_91 : decode cX7_greedy 91 = .ok (.iload_n 2, 1) := by decide +kernel
theorem dX7_greedy_92 : decode cX7_greedy 92 = .ok (.istore_n 2, 1) := by decide +kernel
theorem dX7_greedy_93 : decode cX7_greedy 93 = .ok (.iinc 3 1, 3) := by decide +kernel
theorem dX7_greedy_96 : decode cX7_greedy 96 = .ok (.iinc 4 1, 3) := by decide +kernel
theorem dX7_greedy_99 : decode cX7_greedy 99 = .ok (.goto (-52), 3) := by decide +kernel
theorem dX7_greedy_102 : decode cX7_greedy 102 = .ok (.iload_n 1, 1) := by decide +kernel
theorem dX7_greedy_103 : decode cX7_greedy 103 = .ok (.ifCond .ne 7, 3) := by decide +kernel
theorem dX7_greedy_106 : decode cX7_greedy 106 = .ok (.iload_n 2, 1) := by decide +kernel
theorem dX7_greedy_107 : decode cX7_greedy 107 = .ok (.goto 4, 3) := by decide +kernel
theorem dX7_greedy_110 : decode cX7_greedy 110 = .ok (.iload_n 3, 1) := by decide +kernel
theorem dX7_greedy_111 : decode cX7_greedy 111 = .ok (.ireturn, 1) := by decide +kernel
set_option maxHeartbeats 4000000 in
set_option maxRecDepth 100000 in
theorem m_X7_greedy (l : Launch) (w : Int) (mem : Mem) (hw : i32 w) (hCI : CI mem) (hN : 0 ≤ mem 21 0 ∧ mem 21 0 ≤ 8) (hV : ∀ i : Nat, i < 8 → 0 ≤ mem 22 i ∧ mem 22 i ≤ 500) (hV1 : ∀ i : Nat, (i : Int) < mem 21 0 → 1 ≤ mem 22 i) (hTl : ∀ k : Nat, k < 8 → 0 ≤ mem 23 k ∧ mem 23 k ≤ 99) : Ret shp l yX7_greedy cX7_greedy 6 (some .int) 4 [pR 20, pI w] mem (fun rv mv => ∃ z, rv = some (pI z) ∧ KeepC mem mv ∧ z = if 0 ≤ w ∧ w ≤ 1 then (if w = 0 then (grdF (fun i => (mem 22 i).toNat) (fun i => (mem 23 i).toNat) (mem 21 0).toNat 2501).1 else (grdF (fun i => (mem 22 i).toNat) (fun i => (mem 23 i).toNat) (mem 21 0).toNat 2501).2) else -1) := by
  refine ret_of (by decide +kernel) (Nat.le_of_ble_eq_true rfl) (fun X hX F G => ?_)
  show Ok shp X 6 0 [(0, pR 20), (1, pI w)] [] mem
  refine ok_iload_n F dX7_greedy_0 1 rfl ?_
  refine ok_if_lt F 9 dX7_greedy_1 (by decide) (by omega) (fun c_1 => ?_) (fun c_1 => ?_)
  · refine ok_iconst F dX7_greedy_9 ?_
    refine ok_iret F G dX7_greedy_10 ?_
    exact ⟨_, rfl, KeepC.rf hCI, by rw [if_neg (by omega)]⟩
  · refine ok_iload_n F dX7_greedy_4 1 rfl ?_
    refine ok_iconst F dX7_greedy_5 ?_
    refine ok_icmp_le F 11 dX7_greedy_6 (by decide) (by omega) (by omega) (fun c_2 => ?_) (fun c_2 => ?_)
    · refine ok_aload_n F dX7_greedy_11 0 rfl ?_
      refine ok_getr F dX7_greedy_12 kF_X7_53 sh_20 rfl ?_
      refine ok_aload_n F dX7_greedy_15 0 rfl ?_
      refine ok_getr F dX7_greedy_16 kF_X7_10 sh_20 rfl ?_
      refine ok_aload_n F dX7_greedy_19 0 rfl ?_
      refine ok_getr F dX7_greedy_20 kF_X7_10 sh_20 rfl ?_
      refine ok_getr F dX7_greedy_23 kF_X7_133 sh_21 rfl ?_
      refine ok_aload_n F dX7_greedy_26 0 rfl ?_
      refine ok_getr F dX7_greedy_27 kF_X7_10 sh_20 rfl ?_
      refine ok_getf (v := mem 21 0) F dX7_greedy_30 kF_X7_103 sh_21 rfl rfl ?_
      refine ok_sipush F dX7_greedy_33 rfl ?_
      refine ok_callv F [pR 21, pR 23, pI (mem 21 0), pI 2500] dX7_greedy_36 kM_X1_layChange kI_X1_layChange kV_X1_layChange kL_X7_249 (ci := 1) rfl sh_186 rfl (by decide) (Nat.le_of_ble_eq_true rfl) rfl (m_X1_layChange _ 23 (mem 21 0) 2500 mem (hCI.2) (by omega) (by omega) (hV) (fun i hi => hV1 i (by omega)) (sh_23) (by decide) (fun i hi => by have := hTl i (by omega); omega)) ?_
      rintro _ m_4 ⟨rfl, r_5⟩
      have hkp := LaidC.keep hCI r_5 hV
      obtain ⟨u1, ⟨T, u2, u3⟩, u4⟩ := id r_5
      have uT := u3.2.2.2.2.2.1
      refine ok_bipush F dX7_greedy_39 rfl ?_
      refine ok_istore_n (lv' := [(2, pI (-2)), (0, pR 20), (1, pI w)]) F dX7_greedy_41 (by decide) rfl ?_
      refine ok_iconst F dX7_greedy_42 ?_
      refine ok_istore_n (lv' := [(3, pI 0), (2, pI (-2)), (0, pR 20), (1, pI w)]) F dX7_greedy_43 (by decide) rfl ?_
      refine ok_iconst F dX7_greedy_44 ?_
      refine ok_istore (lv' := [(4, pI 0), (3, pI 0), (2, pI (-2)), (0, pR 20), (1, pI w)]) F dX7_greedy_45 (by decide) rfl ?_
      have hL_47 : ∀ (n_47 : Nat) (b : Int) (c : Int) (a : Int), (0 ≤ a ∧ a ≤ 2501 ∧ b = (grdF (fun i => (mem 22 i).toNat) (fun i => (mem 23 i).toNat) (mem 21 0).toNat a.toNat).1 ∧ c = (grdF (fun i => (mem 22 i).toNat) (fun i => (mem 23 i).toNat) (mem 21 0).toNat a.toNat).2 ∧ (c = 0 ∧ b = -2 ∨ 1 ≤ c ∧ c ≤ a ∧ 0 ≤ b ∧ b ≤ 2500)) → (2501 - a).toNat = n_47 → Ok shp X 6 47 [(0, pR 20), (1, pI w), (2, pI b), (3, pI c), (4, pI a)] [] m_4 := by
        intro n_47
        induction n_47 using Nat.strongRecOn with
        | _ n_47 ih_47 =>
          intro b c a hI_47 hn_47
          refine ok_iload F dX7_greedy_47 4 rfl ?_
          refine ok_sipush F dX7_greedy_49 rfl ?_
          refine ok_icmp_gt F 102 dX7_greedy_52 (by decide) (by omega) (by omega) (fun c_6 => ?_) (fun c_6 => ?_)
          · refine ok_iload_n F dX7_greedy_102 1 rfl ?_
            refine ok_if_ne F 110 dX7_greedy_103 (by decide) (by omega) (fun c_7 => ?_) (fun c_7 => ?_)
            · refine ok_iload_n F dX7_greedy_110 3 rfl ?_
              refine ok_iret F G dX7_greedy_111 ?_
              have ea : a.toNat = 2501 := by omega
              rw [ea] at hI_47
              refine ⟨_, rfl, hkp, ?_⟩
              rw [if_pos (by omega)]
              first | (rw [if_pos (by omega)]; exact hI_47.2.2.1) | (rw [if_neg (by omega)]; exact hI_47.2.2.2.1)
            · refine ok_iload_n F dX7_greedy_106 2 rfl ?_
              refine ok_goto F 111 dX7_greedy_107 (by decide) ?_
              refine ok_iret F G dX7_greedy_111 ?_
              have ea : a.toNat = 2501 := by omega
              rw [ea] at hI_47
              refine ⟨_, rfl, hkp, ?_⟩
              rw [if_pos (by omega)]
              first | (rw [if_pos (by omega)]; exact hI_47.2.2.1) | (rw [if_neg (by omega)]; exact hI_47.2.2.2.1)
          · have e := LaidC.val (T := T) u4 hN (a := a) (by omega)
            have hb := fewT_bd (fun i => (mem 22 i).toNat) (fun i => (mem 23 i).toNat) (mem 21 0).toNat a.toNat
            have hg := greedF_bd (fun i => (mem 22 i).toNat) (fun i => (mem 23 i).toNat) (mem 21 0).toNat a.toNat
            have hgf : greedF (fun i => (mem 22 i).toNat) (fun i => (mem 23 i).toNat) (mem 21 0).toNat a.toNat = if (grL (fun i => (mem 22 i).toNat) (fun i => (mem 23 i).toNat) (mem 21 0).toNat a.toNat 0).1 = 0 then (((grL (fun i => (mem 22 i).toNat) (fun i => (mem 23 i).toNat) (mem 21 0).toNat a.toNat 0).2 : Nat) : Int) else 1000000 := rfl
            have hge := greed_ge (v := (fun i => (mem 22 i).toNat)) (c := (fun i => (mem 23 i).toNat)) (n := (mem 21 0).toNat) (a := a.toNat)
            refine ok_aload_n F dX7_greedy_55 0 rfl ?_
            refine ok_getr F dX7_greedy_56 kF_X7_53 sh_20 rfl ?_
            refine ok_iload F dX7_greedy_59 4 rfl ?_
            refine ok_callv F [pI a] dX7_greedy_61 kM_X1_piecesFor kI_X1_piecesFor kV_X1_piecesFor kL_X7_274 (ci := 1) rfl sh_186 rfl (by decide) (Nat.le_of_ble_eq_true rfl) rfl (m_X1_piecesFor _ (tbC (m_4 190) (m_4 191) T) 0 T (mem 21 0) a m_4 (u3) (by omega)) ?_
            rintro _ _ ⟨rfl, rfl⟩
            refine ok_istore (lv' := [(5, pI (if (tbC (m_4 190) (m_4 191) T) (mem 21 0).toNat a < 1000000 then (tbC (m_4 190) (m_4 191) T) (mem 21 0).toNat a else -1)), (0, pR 20), (1, pI w), (2, pI b), (3, pI c), (4, pI a)]) F dX7_greedy_64 (by decide) rfl ?_
            refine ok_iload F dX7_greedy_66 0 rfl ?_
            refine ok_if_lt F 96 dX7_greedy_68 (by decide) (by omega) (fun c_8 => ?_) (fun c_8 => ?_)
            · refine ok_iinc (lv' := [(4, pI (a + 1)), (5, pI (if (tbC (m_4 190) (m_4 191) T) (mem 21 0).toNat a < 1000000 then (tbC (m_4 190) (m_4 191) T) (mem 21 0).toNat a else -1)), (0, pR 20), (1, pI w), (2, pI b), (3, pI c)]) F dX7_greedy_96 5 rfl (by decide) rfl ?_
              refine ok_goto F 47 dX7_greedy_99 (by decide) ?_
              refine ok_lvp [2, 3, 4, 5, 0] (lv' := [(0, pR 20), (1, pI w), (2, pI b), (3, pI c), (4, pI (a + 1))]) rfl ?_
              refine ih_47 _ ?_ b c (a + 1) ?_ rfl
              · omega
              · refine ⟨by omega, by omega, ?_, ?_, by omega⟩
                all_goals rw [grdF_s _ _ _ hI_47.1]
                all_goals first
                  | (rw [if_neg (by omega)]; first | exact hI_47.2.2.1 | exact hI_47.2.2.2.1)
                  | (rw [if_pos (by omega)] <;> (try dsimp only) <;> omega)
            · refine ok_iload F dX7_greedy_71 0 rfl ?_
              refine ok_aload_n F dX7_greedy_73 1 rfl ?_
              refine ok_iload F dX7_greedy_74 5 rfl ?_
              refine ok_callv F [pI a] dX7_greedy_76 kM_X7_greedyPieces kI_X7_greedyPieces kV_X7_greedyPieces kL_X7_281 (ci := 7) rfl sh_20 rfl (by decide) (Nat.le_of_ble_eq_true rfl) rfl (m_X7_greedyPieces _ a m_4 (by omega) (by rw [hkp.1 21 (by decide)]; exact hN) (by rw [hkp.1 22 (by decide)]; exact hV) (by rw [hkp.1 21 (by decide), hkp.1 22 (by decide)]; exact hV1) (by rw [hkp.1 23 (by decide)]; exact hTl)) ?_
              rintro _ _ ⟨rfl, rfl⟩
              have e22 := hkp.1 22 (by decide)
              have e23 := hkp.1 23 (by decide)
              have e21 := hkp.1 21 (by decide)
              rw [e21, e22, e23]
              refine ok_icmp_eq F 96 dX7_greedy_79 (by decide) (by omega) (by omega) (fun c_9 => ?_) (fun c_9 => ?_)
              · refine ok_iinc (lv' := [(4, pI (a + 1)), (5, pI (if (tbC (m_4 190) (m_4 191) T) (mem 21 0).toNat a < 1000000 then (tbC (m_4 190) (m_4 191) T) (mem 21 0).toNat a else -1)), (0, pR 20), (1, pI w), (2, pI b), (3, pI c)]) F dX7_greedy_96 5 rfl (by decide) rfl ?_
                refine ok_goto F 47 dX7_greedy_99 (by decide) ?_
                refine ok_lvp [2, 3, 4, 5, 0] (lv' := [(0, pR 20), (1, pI w), (2, pI b), (3, pI c), (4, pI (a + 1))]) rfl ?_
                refine ih_47 _ ?_ b c (a + 1) ?_ rfl
                · omega
                · refine ⟨by omega, by omega, ?_, ?_, by omega⟩
                  all_goals rw [grdF_s _ _ _ hI_47.1]
                  all_goals first
                    | (rw [if_neg (by omega)]; first | exact hI_47.2.2.1 | exact hI_47.2.2.2.1)
                    | (rw [if_pos (by omega)] <;> (try dsimp only) <;> omega)
              · refine ok_iload_n F dX7_greedy_82 4 rfl ?_
                refine ok_if_ne F 91 dX7_greedy_83 (by decide) (by omega) (fun c_10 => ?_) (fun c_10 => ?_)
                · refine ok_iload_n F dX7_greedy_91 3 rfl ?_
                  refine ok_istore_n (lv' := [(2, pI b), (5, pI (if (tbC (m_4 190) (m_4 191) T) (mem 21 0).toNat a < 1000000 then (tbC (m_4 190) (m_4 191) T) (mem 21 0).toNat a else -1)), (0, pR 20), (1, pI w), (3, pI c), (4, pI a)]) F dX7_greedy_92 (by decide) rfl ?_
                  refine ok_iinc (lv' := [(3, pI (c + 1)), (2, pI b), (5, pI (if (tbC (m_4 190) (m_4 191) T) (mem 21 0).toNat a < 1000000 then (tbC (m_4 190) (m_4 191) T) (mem 21 0).toNat a else -1)), (0, pR 20), (1, pI w), (4, pI a)]) F dX7_greedy_93 4 rfl (by decide) rfl ?_
                  refine ok_iinc (lv' := [(4, pI (a + 1)), (3, pI (c + 1)), (2, pI b), (5, pI (if (tbC (m_4 190) (m_4 191) T) (mem 21 0).toNat a < 1000000 then (tbC (m_4 190) (m_4 191) T) (mem 21 0).toNat a else -1)), (0, pR 20), (1, pI w)]) F dX7_greedy_96 5 rfl (by decide) rfl ?_
                  refine ok_goto F 47 dX7_greedy_99 (by decide) ?_
                  refine ok_lvp [4, 5, 2, 1, 0] (lv' := [(0, pR 20), (1, pI w), (2, pI b), (3, pI (c + 1)), (4, pI (a + 1))]) rfl ?_
                  refine ih_47 _ ?_ b (c + 1) (a + 1) ?_ rfl
                  · omega
                  · refine ⟨by omega, by omega, ?_, ?_, by omega⟩
                    all_goals rw [grdF_s _ _ _ hI_47.1]
                    all_goals first
                      | (rw [if_neg (by omega)]; first | exact hI_47.2.2.1 | exact hI_47.2.2.2.1)
                      | (rw [if_pos (by omega)] <;> (try dsimp only) <;> omega)
                · refine ok_iload F dX7_greedy_86 5 rfl ?_
                  refine ok_goto F 92 dX7_greedy_88 (by decide) ?_
                  refine ok_istore_n (lv' := [(2, pI a), (5, pI (if (tbC (m_4 190) (m_4 191) T) (mem 21 0).toNat a < 1000000 then (tbC (m_4 190) (m_4 191) T) (mem 21 0).toNat a else -1)), (0, pR 20), (1, pI w), (3, pI c), (4, pI a)]) F dX7_greedy_92 (by decide) rfl ?_
                  refine ok_iinc (lv' := [(3, pI (c + 1)), (2, pI a), (5, pI (if (tbC (m_4 190) (m_4 191) T) (mem 21 0).toNat a < 1000000 then (tbC (m_4 190) (m_4 191) T) (mem 21 0).toNat a else -1)), (0, pR 20), (1, pI w), (4, pI a)]) F dX7_greedy_93 4 rfl (by decide) rfl ?_
                  refine ok_iinc (lv' := [(4, pI (a + 1)), (3, pI (c + 1)), (2, pI a), (5, pI (if (tbC (m_4 190) (m_4 191) T) (mem 21 0).toNat a < 1000000 then (tbC (m_4 190) (m_4 191) T) (mem 21 0).toNat a else -1)), (0, pR 20), (1, pI w)]) F dX7_greedy_96 5 rfl (by decide) rfl ?_
                  refine ok_goto F 47 dX7_greedy_99 (by decide) ?_
                  refine ok_lvp [4, 5, 2, 1, 0] (lv' := [(0, pR 20), (1, pI w), (2, pI a), (3, pI (c + 1)), (4, pI (a + 1))]) rfl ?_
                  refine ih_47 _ ?_ a (c + 1) (a + 1) ?_ rfl
                  · omega
                  · refine ⟨by omega, by omega, ?_, ?_, by omega⟩
                    all_goals rw [grdF_s _ _ _ hI_47.1]
                    all_goals first
                      | (rw [if_neg (by omega)]; first | exact hI_47.2.2.1 | exact hI_47.2.2.2.1)
                      | (rw [if_pos (by omega)] <;> (try dsimp only) <;> omega)
      refine ok_lvp [3, 4, 2, 1, 0] (lv' := [(0, pR 20), (1, pI w), (2, pI (-2)), (3, pI 0), (4, pI 0)]) rfl ?_
      refine hL_47 _ (-2) 0 0 ?_ rfl
      exact ⟨by omega, by omega, rfl, rfl, Or.inl ⟨rfl, rfl⟩⟩
    · refine ok_iconst F dX7_greedy_9 ?_
      refine ok_iret F G dX7_greedy_10 ?_
      exact ⟨_, rfl, KeepC.rf hCI, by rw [if_neg (by omega)]⟩
theorem dX7_findSettling_0 : decode cX7_findSettling 0 = .ok (.aload_n 0, 1) := by decide +kernel
theorem dX7_findSettling_1 : decode cX7_findSettling 1 = .ok (.getfield 53, 3) := by decide +kernel
theorem dX7_findSettling_4 : decode cX7_findSettling 4 = .ok (.aload_n 0, 1) := by decide +kernel
theorem dX7_findSettling_5 : decode cX7_findSettling 5 = .ok (.getfield 10, 3) := by decide +kernel
theorem dX7_findSettling_8 : decode cX7_findSettling 8 = .ok (.invokevirtual 284, 3) := by decide +kernel
theorem dX7_findSettling_11 : decode cX7_findSettling 11 = .ok (.aload_n 0, 1) := by decide +kernel
theorem dX7_findSettling_12 : decode cX7_findSettling 12 = .ok (.getfield 53, 3) := by decide +kernel
theorem dX7_findSettling_15 : decode cX7_findSettling 15 = .ok (.iload_n 1, 1) := by decide +kernel
theorem dX7_findSettling_16 : decode cX7_findSettling 16 = .ok (.aload_n 0, 1) := by decide +kernel
theorem dX7_findSettling_17 : decode cX7_findSettling 17 = .ok (.getfield 68, 3) := by decide +kernel
theorem dX7_findSettling_20 : decode cX7_findSettling 20 = .ok (.invokevirtual 255, 3) := by decide +kernel
theorem dX7_findSettling_23 : decode cX7_findSettling 23 = .ok (.ireturn, 1) := by decide +kernel
set_option maxHeartbeats 4000000 in
set_option maxRecDepth 100000 in
theorem m_X7_findSettling (l : Launch) (p : Int) (mem : Mem) (hp : 1 ≤ p ∧ p ≤ 1000) (hCI : CI mem) (hN : 0 ≤ mem 21 0 ∧ mem 21 0 ≤ 8) (hV : ∀ i : Nat, i < 8 → 0 ≤ mem 22 i ∧ mem 22 i ≤ 500) (hV1 : ∀ i : Nat, (i : Int) < mem 21 0 → 1 ≤ mem 22 i) (hTl : ∀ k : Nat, k < 8 → 0 ≤ mem 23 k ∧ mem 23 k ≤ 99) (hPu : ∀ k : Nat, k < 8 → 0 ≤ mem 24 k ∧ mem 24 k ≤ 99) : Ret shp l yX7_findSettling cX7_findSettling 2 (some .int) 4 [pR 20, pI p] mem (fun rv mv => ∃ z, rv = some (pI z) ∧ KeepC mem mv ∧ z = (if stlT (mem 22) (mem 24) (mem 23) (mem 21 0).toNat p < 1000000 then stlT (mem 22) (mem 24) (mem 23) (mem 21 0).toNat p else -1) ∧ (stlT (mem 22) (mem 24) (mem 23) (mem 21 0).toNat p < 1000000 → ∀ j : Nat, j < 8 → mv 212 j = if (j : Int) < mem 21 0 then rdR (stlT (mem 22) (mem 24) (mem 23)) (mem 22) (mem 24) (mem 23) (mem 21 0).toNat p (stlT (mem 22) (mem 24) (mem 23) (mem 21 0).toNat p) j else 0)) := by
  refine ret_of (by decide +kernel) (Nat.le_of_ble_eq_true rfl) (fun X hX F G => ?_)
  show Ok shp X 2 0 [(0, pR 20), (1, pI p)] [] mem
  refine ok_aload_n F dX7_findSettling_0 0 rfl ?_
  refine ok_getr F dX7_findSettling_1 kF_X7_53 sh_20 rfl ?_
  refine ok_aload_n F dX7_findSettling_4 0 rfl ?_
  refine ok_getr F dX7_findSettling_5 kF_X7_10 sh_20 rfl ?_
  refine ok_callv F [pR 21] dX7_findSettling_8 kM_X1_laySettling kI_X1_laySettling kV_X1_laySettling kL_X7_284 (ci := 1) rfl sh_186 rfl (by decide) (Nat.le_of_ble_eq_true rfl) rfl (m_X1_laySettling _ mem (hCI.2) (by omega) (hV) (hV1) (fun i hi => by have := hPu i hi; omega) (fun i hi => by have := hTl i hi; omega)) ?_
  rintro _ m_2 ⟨rfl, r_3⟩
  have hkp := LaidS.keep hCI r_3 hV
  obtain ⟨u1, u3, u4⟩ := id r_3
  have us : ∀ k, k ≤ 8 → ∀ s, stlT (m_2 190) (m_2 191) (m_2 192) k s = stlT (mem 22) (mem 24) (mem 23) k s := fun k hk s => stlT_congr s (fun i hi => u4 i (by omega))
  refine ok_aload_n F dX7_findSettling_11 0 rfl ?_
  refine ok_getr F dX7_findSettling_12 kF_X7_53 sh_20 rfl ?_
  refine ok_iload_n F dX7_findSettling_15 1 rfl ?_
  refine ok_aload_n F dX7_findSettling_16 0 rfl ?_
  refine ok_getr F dX7_findSettling_17 kF_X7_68 sh_20 rfl ?_
  refine ok_callv F [pI p, pR 212] dX7_findSettling_20 kM_X1_read kI_X1_read kV_X1_read kL_X7_255 (ci := 1) rfl sh_186 rfl (by decide) (Nat.le_of_ble_eq_true rfl) rfl (m_X1_read _ (stlT (m_2 190) (m_2 191) (m_2 192)) 2000 2000 (mem 21 0) p 212 m_2 (u3) (by omega) (sh_212) (by decide)) ?_
  rintro _ m_5 ⟨z_4, rfl, r_6⟩
  obtain ⟨v1, v2, v3⟩ := id r_6
  rw [us _ (by omega)] at v2 v3
  have hk2 : KeepC mem m_5 := ⟨fun c hc => by rw [v1 c (by omega)]; exact hkp.1 c hc, hkp.2.congr (fun c c1 c2 _ _ => v1 c (by omega))⟩
  refine ok_iret F G dX7_findSettling_23 ?_
  refine ⟨_, rfl, hk2, v2, fun q j hj => ?_⟩
  rw [v3 q j hj]
  by_cases g : (j : Int) < mem 21 0
  · rw [if_pos g, if_pos g]; exact rdR_congr _ _ _ (fun k hk s => us k (by omega) s) (fun i hi => u4 i (by omega))
  · rw [if_neg g, if_neg g]
theorem dX7_settle_0 : decode cX7_settle 0 = .ok (.iload_n 1, 1) := by decide +kernel
theorem dX7_settle_1 : decode cX7_settle 1 = .ok (.invokestatic 127, 3) := by decide +kernel
theorem dX7_settle_4 : decode cX7_settle 4 = .ok (.ifCond .eq 11, 3) := by decide +kernel
theorem dX7_settle_7 : decode cX7_settle 7 = .ok (.aload_n 0, 1) := by decide +kernel
theorem dX7_settle_8 : decode cX7_settle 8 = .ok (.iload_n 2, 1) := by decide +kernel
theorem dX7_settle_9 : decode cX7_settle 9 = .ok (.invokevirtual 246, 3) := by decide +kernel
theorem dX7_settle_12 : decode cX7_settle 12 = .ok (.ifCond .ne 7, 3) := by decide +kernel
theorem dX7_settle_15 : decode cX7_settle 15 = .ok (.sipush (-1000), 3) := by decide +kernel
theorem dX7_settle_18 : decode cX7_settle 18 = .ok (.ireturn, 1) := by decide +kernel
theorem dX7_settle_19 : decode cX7_settle 19 = .ok (.aload_n 0, 1) := by decide +kernel
theorem dX7_settle_20 : decode cX7_settle 20 = .ok (.iload_n 1, 1) := by decide +kernel
theorem dX7_settle_21 : decode cX7_settle 21 = .ok (.invokevirtual 143, 3) := by decide +kernel
theorem dX7_settle_24 : decode cX7_settle 24 = .ok (.istore_n 3, 1) := by decide +kernel
theorem dX7_settle_25 : decode cX7_settle 25 = .ok (.iload_n 3, 1) := by decide +kernel
theorem dX7_settle_26 : decode cX7_settle 26 = .ok (.ifCond .ge 6, 3) := by decide +kernel
theorem dX7_settle_29 : decode cX7_settle 29 = .ok (.bipush (-100), 2) := by decide +kernel
theorem dX7_settle_31 : decode cX7_settle 31 = .ok (.ireturn, 1) := by decide +kernel
theorem dX7_settle_32 : decode cX7_settle 32 = .ok (.iload_n 2, 1) := by decide +kernel
theorem dX7_settle_33 : decode cX7_settle 33 = .ok (.iconst (-1), 1) := by decide +kernel
theorem dX7_settle_34 : decode cX7_settle 34 = .ok (.if_icmp .ne 7, 3) := by decide +kernel
theorem dX7_settle_37 : decode cX7_settle 37 = .ok (.iload_n 3, 1) := by decide +kernel
theorem dX7_settle_38 : decode cX7_settle 38 = .ok (.goto 9, 3) := by decide +kernel
theorem dX7_settle_41 : decode cX7_settle 41 = .ok (.aload_n 0, 1) := by decide +kernel
theorem dX7_settle_42 : decode cX7_settle 42 = .ok (.getfield 68, 3) := by decide +kernel
theorem dX7_settle_45 : decode cX7_settle 45 = .ok (.iload_n 2, 1) := by decide +kernel
theorem dX7_settle_46 : decode cX7_settle 46 = .ok (.iaload, 1) := by decide +kernel
theorem dX7_settle_47 : decode cX7_settle 47 = .ok (.ireturn, 1) := by decide +kernel
set_option maxHeartbeats 4000000 in
set_option maxRecDepth 100000 in
theorem m_X7_settle (l : Launch) (p : Int) (k : Int) (mem : Mem) (hp : i32 p) (hk : i32 k) (hCI : CI mem) (hN : 0 ≤ mem 21 0 ∧ mem 21 0 ≤ 8) (hV : ∀ i : Nat, i < 8 → 0 ≤ mem 22 i ∧ mem 22 i ≤ 500) (hV1 : ∀ i : Nat, (i : Int) < mem 21 0 → 1 ≤ mem 22 i) (hTl : ∀ k : Nat, k < 8 → 0 ≤ mem 23 k ∧ mem 23 k ≤ 99) (hPu : ∀ k : Nat, k < 8 → 0 ≤ mem 24 k ∧ mem 24 k ≤ 99) : Ret shp l yX7_settle cX7_settle 4 (some .int) 5 [pR 20, pI p, pI k] mem (fun rv mv => ∃ z, rv = some (pI z) ∧ KeepC mem mv ∧ z = if (1 ≤ p ∧ p ≤ 1000) ∧ (k = -1 ∨ 0 ≤ k ∧ k < mem 21 0) then (if stlT (mem 22) (mem 24) (mem 23) (mem 21 0).toNat p < 1000000 then (if k = -1 then stlT (mem 22) (mem 24) (mem 23) (mem 21 0).toNat p else rdR (stlT (mem 22) (mem 24) (mem 23)) (mem 22) (mem 24) (mem 23) (mem 21 0).toNat p (stlT (mem 22) (mem 24) (mem 23) (mem 21 0).toNat p) k.toNat) else -100) else -1000) := by
  refine ret_of (by decide +kernel) (Nat.le_of_ble_eq_true rfl) (fun X hX F G => ?_)
  show Ok shp X 4 0 [(0, pR 20), (1, pI p), (2, pI k)] [] mem
  refine ok_iload_n F dX7_settle_0 1 rfl ?_
  refine ok_calls F [pI p] dX7_settle_1 kM_X7_isPrice kS_X7_isPrice kL_X7_127 rfl (by decide) (Nat.le_of_ble_eq_true rfl) rfl (m_X7_isPrice _ p mem (by omega)) ?_
  rintro _ _ ⟨rfl, rfl⟩
  refine ok_if_eq F 15 dX7_settle_4 (by decide) (by omega) (fun c_1 => ?_) (fun c_1 => ?_)
  · refine ok_sipush F dX7_settle_15 rfl ?_
    refine ok_iret F G dX7_settle_18 ?_
    exact ⟨_, rfl, KeepC.rf hCI, by rw [if_neg (by omega)]⟩
  · refine ok_aload_n F dX7_settle_7 0 rfl ?_
    refine ok_iload_n F dX7_settle_8 2 rfl ?_
    refine ok_callv F [pI k] dX7_settle_9 kM_X7_isKindOrNone kI_X7_isKindOrNone kV_X7_isKindOrNone kL_X7_246 (ci := 7) rfl sh_20 rfl (by decide) (Nat.le_of_ble_eq_true rfl) rfl (m_X7_isKindOrNone _ k mem (by omega) (by omega)) ?_
    rintro _ _ ⟨rfl, rfl⟩
    refine ok_if_ne F 19 dX7_settle_12 (by decide) (by omega) (fun c_2 => ?_) (fun c_2 => ?_)
    · refine ok_aload_n F dX7_settle_19 0 rfl ?_
      refine ok_iload_n F dX7_settle_20 1 rfl ?_
      refine ok_callv F [pI p] dX7_settle_21 kM_X7_findSettling kI_X7_findSettling kV_X7_findSettling kL_X7_143 (ci := 7) rfl sh_20 rfl (by decide) (Nat.le_of_ble_eq_true rfl) rfl (m_X7_findSettling _ p mem (by omega) (hCI) (by omega) (hV) (hV1) (hTl) (hPu)) ?_
      rintro _ m_4 ⟨z_3, rfl, r_5⟩
      obtain ⟨k1, k2, k3⟩ := id r_5
      have kb := stlT_bd (mem 22) (mem 24) (mem 23) (mem 21 0).toNat p
      refine ok_istore_n (lv' := [(3, pI z_3), (0, pR 20), (1, pI p), (2, pI k)]) F dX7_settle_24 (by decide) rfl ?_
      refine ok_iload_n F dX7_settle_25 0 rfl ?_
      refine ok_if_ge F 32 dX7_settle_26 (by decide) (by omega) (fun c_6 => ?_) (fun c_6 => ?_)
      · refine ok_iload_n F dX7_settle_32 3 rfl ?_
        refine ok_iconst F dX7_settle_33 ?_
        refine ok_icmp_ne F 41 dX7_settle_34 (by decide) (by omega) (by omega) (fun c_7 => ?_) (fun c_7 => ?_)
        · refine ok_aload_n F dX7_settle_41 1 rfl ?_
          refine ok_getr F dX7_settle_42 kF_X7_68 sh_20 rfl ?_
          refine ok_iload_n F dX7_settle_45 3 rfl ?_
          refine ok_iald (v := m_4 212 k.toNat) F dX7_settle_46 sh_212 (by first | decide | assumption) (by omega) (by omega) rfl ?_
          refine ok_iret F G dX7_settle_47 ?_
          refine ⟨_, rfl, k1, ?_⟩
          rw [if_pos (by omega)]
          first | (rw [if_pos (by omega), if_pos (by omega)]; omega) | (rw [if_pos (by omega), if_neg (by omega), k3 (by omega) k.toNat (by omega), if_pos (by omega)])
        · refine ok_iload_n F dX7_settle_37 0 rfl ?_
          refine ok_goto F 47 dX7_settle_38 (by decide) ?_
          refine ok_iret F G dX7_settle_47 ?_
          refine ⟨_, rfl, k1, ?_⟩
          rw [if_pos (by omega)]
          first | (rw [if_pos (by omega), if_pos (by omega)]; omega) | (rw [if_pos (by omega), if_neg (by omega), k3 (by omega) k.toNat (by omega), if_pos (by omega)])
      · refine ok_bipush F dX7_settle_29 rfl ?_
        refine ok_iret F G dX7_settle_31 ?_
        refine ⟨_, rfl, k1, ?_⟩
        rw [if_pos (by omega), if_neg (by omega)]
    · refine ok_sipush F dX7_settle_15 rfl ?_
      refine ok_iret F G dX7_settle_18 ?_
      exact ⟨_, rfl, KeepC.rf hCI, by rw [if_neg (by omega)]⟩
