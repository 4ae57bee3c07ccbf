/-! the class: all that is told, read -/
theorem ishr0 : ∀ r : Fin 4, iand (ishr 0 (r.val : Int)) 1 = 0 := by decide +kernel
theorem clr_out {m : Mem} {a : Nat} (ha : a < 32 ∨ 39 < a) : clrM m 32 8 a = m a := by
  funext j
  unfold clrM
  rw [if_neg (by omega), if_neg (by omega)]
theorem tel_start {g mA m1 : Mem} (hTp : ∀ p : Nat, p < 400 → mA 176 p = iand (g 6 p) 255) (hT : 0 ≤ g 0 7 ∧ g 0 7 ≤ 400) (h10 : 0 ≤ g 0 10 ∧ g 0 10 ≤ 400) (hBy : ∀ k : Nat, -128 ≤ g 6 k ∧ g 6 k ≤ 127) (hZ : ∀ k : Nat, 459 ≤ k → g 2 k = 0) (hZ7 : ∀ k : Nat, g 7 k = 0 ∨ g 7 k = 1) (e2 : mA 175 2 = g 0 7) (e3 : mA 175 3 = 0) (e6 : mA 175 6 = 0) (e : m1 = clrM mA 32 8) : RH (tl0 g) m1 ∧ tl0 g 2 0 = 0 ∧ tl0 g 2 1 = 0 ∧ tl0 g 2 2 = 0 ∧ ∀ j : Nat, 11 ≤ j → tl0 g 2 j = startH j := by
  obtain ⟨hok0, h0a, h0k, h0z, h09, h07o⟩ := tl0_ok hT h10
  have x0 : tl0 g 2 0 = 0 := h0k 0 (by decide)
  have x1 : tl0 g 2 1 = 0 := h0k 1 (by decide)
  have x2 : tl0 g 2 2 = 0 := h0k 2 (by decide)
  have hs : ∀ j : Nat, tl0 g 2 j = startH j := fun j => by
    by_cases y : j < 459
    · exact h0k j y
    · rw [h0z j (by omega), hZ j (by omega)]
      unfold startH
      rw [if_neg (by omega), if_neg (by omega)]
  have o : ∀ a, (a < 32 ∨ 39 < a) → m1 a = mA a := fun a ha => by
    funext j
    rw [e]
    unfold clrM
    rw [if_neg (by omega), if_neg (by omega)]
  have z : ∀ j : Nat, j < 2 → m1 32 j = 0 := fun j hj => by
    rw [e]
    unfold clrM
    rw [if_neg (by omega), if_pos ⟨rfl, hj⟩]
  have z6 : m1 175 6 = 0 := by rw [o 175 (by decide)]; exact e6
  have t7 : ∀ r : Nat, r < 4 → tl0 g 7 r = 0 := fun r hr => by
    unfold tl0
    rw [if_neg (by omega), if_neg (by omega), if_neg (by omega), if_pos ⟨rfl, hr⟩]
  refine ⟨⟨h09, ⟨fun p hp => by rw [o 176 (by decide), h0a 6 (by decide) (by decide) (by decide)]; exact hTp p hp, by rw [o 175 (by decide)]; exact e2, by rw [o 175 (by decide)]; exact e3, hok0, fun k => by rw [h0a 6 (by decide) (by decide) (by decide)]; exact hBy k⟩, ⟨by rw [z 0 (by decide), x0], by rw [z 1 (by decide), x1], fun r hr k hk => ?_, fun s hs2 => ?_, fun d hd => ?_⟩, ?_, fun j hj => ?_, by rw [z6]; decide, fun r hr => by rw [z6, t7 r hr]; exact ishr0 ⟨r, hr⟩, fun r => ?_, fun q => ?_⟩, x0, x1, x2, fun j _ => hs j⟩
  · rw [hs, e]
    unfold clrM startH
    rw [if_pos (by omega)]
    by_cases r3 : r = 3
    · rw [if_pos (by omega), if_pos (by omega)]
    · by_cases r4 : r = 4
      · rw [if_neg (by omega), if_pos (by omega), if_neg (by omega), if_pos (by omega)]
      · rw [if_neg (by omega), if_neg (by omega), if_neg (by omega), if_neg (by omega)]
  · rw [x2] at hs2; omega
  · rw [x1] at hd; omega
  · refine ⟨by rw [x0]; decide, by rw [x1]; decide, by rw [x2]; decide, fun i hi => ?_, fun i hi => ?_, fun r hr k hk => ?_, fun i hi => ?_, fun s hs2 => ?_, fun s hs2 => ?_, ?_⟩
    · rw [hs]
      unfold startH
      rw [if_neg (by omega), if_neg (by omega)]; decide
    · rw [x0] at hi; omega
    · rw [hs]; exact startH_bd _
    · rw [x0] at hi; omega
    · rw [x2] at hs2; omega
    · rw [x2] at hs2; omega
    · rw [x0]; exact (by decide : (0:Int) ≤ 5)
  · rw [x2] at hj
    rw [hs]
    unfold startH
    rw [if_neg (by omega), if_neg (by omega)]
  · rcases h07o r with q | q
    · exact Or.inl q
    · rw [q]; exact hZ7 r
  · rw [x1] at q; omega
theorem tl1Z {m : Mem} (hok : RdOk m) (h : m 0 9 ≠ 0) : RdOk (tl1 m) ∧ tl1 m 0 9 ≠ 0 := by
  obtain ⟨pD, pT, pP, aD, aT, eP1, pid, hle, pN, p99, p9t⟩ := pt_ok hok
  refine ⟨(tl1_ok hok).1, ?_⟩
  unfold tl1
  split
  · rw [p9t]; exact h
  · exact flZ (by rw [p99]; exact h) (by decide) pP.1
/-- the loop over the parts -/
def TelL (g m : Mem) (i b : Int) : Prop := (b = 1 ∧ ∃ (H : Mem) (n : Nat), 402 ≤ (n : Int) + H 0 8 ∧ partsL 402 (tl2 g) = partsL n H ∧ RH H m ∧ 1 ≤ H 2 0 ∧ i ≤ H 0 8 ∧ m 175 7 = 0) ∨ (b = 0 ∧ tellH g 0 9 ≠ -1 ∧ tellH g 0 9 ≠ 0 ∧ m 175 7 = tellH g 0 9)
theorem TelL.no {g m : Mem} {i b : Int} (h : TelL g m i b) (q : b = 0 ∨ 400 < i) : tellH g 0 9 ≠ -1 ∧ tellH g 0 9 ≠ 0 ∧ m 175 7 = tellH g 0 9 := by
  rcases h with ⟨h1, H, n, h2, h3, h4, h5, h6, h7⟩ | ⟨_, h2, h3, h4⟩
  · have := h4.2.1.2.2.2.1.2.1
    omega
  · exact ⟨h2, h3, h4⟩
theorem TelL.yes {g m : Mem} {i b : Int} (h : TelL g m i b) (q : b ≠ 0) : ∃ (H : Mem) (n : Nat), 402 ≤ (n : Int) + H 0 8 ∧ partsL 402 (tl2 g) = partsL n H ∧ RH H m ∧ 1 ≤ H 2 0 ∧ i ≤ H 0 8 ∧ m 175 7 = 0 := by
  rcases h with ⟨_, h⟩ | ⟨h, _⟩
  · exact h
  · exact absurd h q
theorem TelL.fst {g m m1 : Mem} {z : Int} (hok : RdOk (tl0 g)) (h9 : tl0 g 0 9 = -1) (h7 : m 175 7 = 0) (h : z = 1 ∧ RH (kindsL 10 (tl1 (tl0 g))) m1 ∧ 1 ≤ (kindsL 10 (tl1 (tl0 g))) 2 0 ∧ m1 175 7 = m 175 7 ∨ z = 0 ∧ (kindsL 10 (tl1 (tl0 g))) 0 9 ≠ -1 ∧ m1 175 7 = (kindsL 10 (tl1 (tl0 g))) 0 9) : TelL g m1 0 z := by
  obtain ⟨o1, o2⟩ := tl1Z hok (by rw [h9]; decide)
  obtain ⟨o3, o4⟩ := kindsZ 10 _ o1 o2
  rcases h with ⟨z1, z2, z3, z4⟩ | ⟨z1, z2, z3⟩
  · exact Or.inl ⟨z1, tl2 g, 402, Int.le_add_of_nonneg_right o3.2.1.1, rfl, z2, z3, o3.2.1.1, by rw [z4]; exact h7⟩
  · have e : tellH g = tl2 g := by
      unfold tellH
      rw [partsL_bad (m := tl2 g) z2, tl3_bad (m := tl2 g) z2]
    exact Or.inr ⟨z1, by rw [e]; exact z2, by rw [e]; exact o4, by rw [e]; exact z3⟩
theorem tel_end {g H m m2 : Mem} {n : Nat} (hn : 402 ≤ (n : Int) + H 0 8) (hE : partsL 402 (tl2 g) = partsL n H) (hH : RH H m) (hk : 1 ≤ H 2 0) (hs : sgn H (ptP H) = -1) (e : m2 = mset m 175 3 (ptP H)) : tellH g = ptD H ∧ RH (tellH g) m2 ∧ 1 ≤ tellH g 2 0 ∧ tellH g 0 9 = -1 := by
  have hok := hH.2.1.2.2.2.1
  have h8 := hok.2.1
  obtain ⟨n1, rfl⟩ : ∃ x, n = x + 1 := ⟨n - 1, by omega⟩
  obtain ⟨pD, pT, pP, aD, aT, eP1, pid, hle, pN, p99, p9t⟩ := pt_ok hok
  have a : tellH g = ptD H := by
    unfold tellH
    rw [hE, partsL_s, if_neg (by unfold goesP; rw [decide_eq_false (fun q => by have := q.2; omega)]; decide)]
    unfold stopP
    rw [if_pos hH.1]
    exact (tl3_stop hok hH.1).1 hs
  refine ⟨a, by rw [a, e]; exact hH.next, by rw [a, aD 2 (by decide)]; exact hk, by rw [a, p99]; exact hH.1⟩
theorem tel_step {g H m m1 m2 : Mem} {n : Nat} {i z : Int} (hn : 402 ≤ (n : Int) + H 0 8) (hE : partsL 402 (tl2 g) = partsL n H) (hH : RH H m) (hi : i ≤ H 0 8) (h7 : m1 175 7 = 0) (hp : z = 1 ∧ goesP (ptD H) = true ∧ RH (partM (nxt (ptD H))) m2 ∧ 1 ≤ (partM (nxt (ptD H))) 2 0 ∧ m2 175 7 = m1 175 7 ∨ z = 0 ∧ (goesP (ptD H) = true ∧ (partM (nxt (ptD H))) 0 9 ≠ -1 ∧ m2 175 7 = (partM (nxt (ptD H))) 0 9 ∨ goesP (ptD H) = false ∧ m2 175 7 = 8 * ptP (ptD H) + 1)) (hs : sgn H (ptP H) ≠ -1) : TelL g m2 (i + 1) z := by
  have hok := hH.2.1.2.2.2.1
  have h8 := hok.2.1
  obtain ⟨n1, rfl⟩ : ∃ x, n = x + 1 := ⟨n - 1, by omega⟩
  obtain ⟨i1, i2, i3⟩ := pt_idem hok
  obtain ⟨pD, pT, pP, aD, aT, eP1, pid, hle, pN, p99, p9t⟩ := pt_ok hok
  have eN : nxt (ptD H) = nxt H := by
    unfold nxt
    rw [i1, i2]
  have eG : goesP (ptD H) = goesP H := by
    unfold goesP
    rw [i1, i3, p99]
  rw [eN, eG, i1] at hp
  have hgrow : ptP H + 1 ≤ partM (nxt H) 0 8 := by
    have := (rgo_partM (nxt H)).1
    have e : nxt H 0 8 = ptP H + 1 := mset_eq _ _ _ _
    omega
  have hge : H 0 8 ≤ ptP H := skipF_le H 401 (H 0 8)
  have hE2 : goesP H = true → partsL 402 (tl2 g) = partsL n1 (partM (nxt H)) := fun z2 => by rw [hE, partsL_s, if_pos z2]; rfl
  have hZ0 : goesP H = true → partM (nxt H) 0 9 ≠ 0 := fun z2 => by
    have hg59 : sgn H (ptP H) = 59 := (of_decide_eq_true z2).2
    refine partZ (ptS_ok hok hg59).1 ?_
    have e : nxt H 0 9 = ptD H 0 9 := mset_ne (by decide)
    rw [e, p99, hH.1]; decide
  obtain ⟨K, hK⟩ : ∃ x, x = partM (nxt H) := ⟨_, rfl⟩
  rw [← hK] at hp hE2 hZ0 hgrow
  clear hK
  rcases hp with ⟨z1, z2, z3, z4, z5⟩ | ⟨z1, ⟨z2, z3, z4⟩ | ⟨z2, z3⟩⟩
  · exact Or.inl ⟨z1, K, n1, by omega, hE2 z2, z3, z4, by omega, by rw [z5]; exact h7⟩
  · have e : tellH g = K := by
      unfold tellH
      rw [hE2 z2, partsL_bad z3, tl3_bad z3]
    exact Or.inr ⟨z1, by rw [e]; exact z3, by rw [e]; exact hZ0 z2, by rw [e]; exact z4⟩
  · have n1 : (8 * ptP H + 1 : Int) ≠ -1 := by omega
    have n0 : (8 * ptP H + 1 : Int) ≠ 0 := by omega
    have e : tellH g 0 9 = 8 * ptP H + 1 := by
      unfold tellH
      rw [hE, partsL_s, if_neg (by rw [z2]; decide)]
      unfold stopP
      rw [if_pos hH.1]
      exact (tl3_stop hok hH.1).2 hs
    exact Or.inr ⟨z1, by rw [e]; exact n1, by rw [e]; exact n0, by rw [e]; exact z3⟩
theorem RS.cpy {m : Mem} {b c : Nat} {f : Nat → Int} (h : RS m c f) (hG : GR f) : RS (cpyS m b c 11) b f := by
  obtain ⟨r1, r2, r3, r4, r5⟩ := h
  have g1 := hG.2.1
  have g2 := hG.2.2.1
  refine ⟨?_, ?_, fun r hr k hk => ?_, fun s hs => ⟨?_, fun k hk => ?_⟩, fun d hd => ?_⟩
  · rw [← r1]; exact cpyS_at (b := b) (c := c) (k := 0) (by decide) (by decide)
  · rw [← r2]; exact cpyS_at (b := b) (c := c) (k := 0) (by decide) (by decide)
  · rw [← r3 r hr k hk, show b + 1 + r = b + (1 + r) by omega, show c + 1 + r = c + (1 + r) by omega]
    refine cpyS_at (by omega) ?_
    unfold wid
    rw [if_neg (by omega)]
    split <;> omega
  · rw [← (r4 s hs).1]
    refine cpyS_at (by decide) ?_
    show s < 40
    omega
  · rw [← (r4 s hs).2 k hk]
    refine cpyS_at (by decide) ?_
    show 8 * s + k < 320
    omega
  · rw [← r5 d hd]
    refine cpyS_at (by decide) ?_
    show d < 5
    omega
theorem dX4_read_0 : decode cX4_read 0 = .ok (.aload_n 0, 1) := by decide +kernel
theorem dX4_read_1 : decode cX4_read 1 = .ok (.iload_n 1, 1) := by decide +kernel
theorem dX4_read_2 : decode cX4_read 2 = .ok (.aload_n 0, 1) := by decide +kernel
theorem dX4_read_3 : decode cX4_read 3 = .ok (.getfield 18, 3) := by decide +kernel
theorem dX4_read_6 : decode cX4_read 6 = .ok (.arraylength, 1) := by decide +kernel
theorem dX4_read_7 : decode cX4_read 7 = .ok (.invokestatic 22, 3) := by decide +kernel
theorem dX4_read_10 : decode cX4_read 10 = .ok (.putfield 28, 3) := by decide +kernel
theorem dX4_read_13 : decode cX4_read 13 = .ok (.aload_n 0, 1) := by decide +kernel
theorem dX4_read_14 : decode cX4_read 14 = .ok (.iconst 0, 1) := by decide +kernel
theorem dX4_read_15 : decode cX4_read 15 = .ok (.putfield 32, 3) := by decide +kernel
theorem dX4_read_18 : decode cX4_read 18 = .ok (.aload_n 0, 1) := by decide +kernel
theorem dX4_read_19 : decode cX4_read 19 = .ok (.iconst 0, 1) := by decide +kernel
theorem dX4_read_20 : decode cX4_read 20 = .ok (.putfield 35, 3) := by decide +kernel
theorem dX4_read_23 : decode cX4_read 23 = .ok (.aload_n 0, 1) := by decide +kernel
theorem dX4_read_24 : decode cX4_read 24 = .ok (.iconst 0, 1) := by decide +kernel
theorem dX4_read_25 : decode cX4_read 25 = .ok (.putfield 38, 3) := by decide +kernel
theorem dX4_read_28 : decode cX4_read 28 = .ok (.aload_n 0, 1) := by decide +kernel
theorem dX4_read_29 : decode cX4_read 29 = .ok (.getfield 12, 3) := by decide +kernel
theorem dX4_read_32 : decode cX4_read 32 = .ok (.invokevirtual 41, 3) := by decide +kernel
theorem dX4_read_35 : decode cX4_read 35 = .ok (.aload_n 0, 1) := by decide +kernel
theorem dX4_read_36 : decode cX4_read 36 = .ok (.invokevirtual 44, 3) := by decide +kernel
theorem dX4_read_39 : decode cX4_read 39 = .ok (.istore_n 2, 1) := by decide +kernel
theorem dX4_read_40 : decode cX4_read 40 = .ok (.iconst 0, 1) := by decide +kernel
theorem dX4_read_41 : decode cX4_read 41 = .ok (.istore_n 3, 1) := by decide +kernel
theorem dX4_read_42 : decode cX4_read 42 = .ok (.iload_n 3, 1) := by decide +kernel
theorem dX4_read_43 : decode cX4_read 43 = .ok (.sipush 400, 3) := by decide +kernel
theorem dX4_read_46 : decode cX4_read 46 = .ok (.if_icmp .gt 26, 3) := by decide +kernel
theorem dX4_read_49 : decode cX4_read 49 = .ok (.iload_n 2, 1) := by decide +kernel
theorem dX4_read_50 : decode cX4_read 50 = .ok (.ifCond .eq 22, 3) := by decide +kernel
theorem dX4_read_53 : decode cX4_read 53 = .ok (.aload_n 0, 1) := by decide +kernel
theorem dX4_read_54 : decode cX4_read 54 = .ok (.invokevirtual 48, 3) := by decide +kernel
theorem dX4_read_57 : decode cX4_read 57 = .ok (.iconst (-1), 1) := by decide +kernel
theorem dX4_read_58 : decode cX4_read 58 = .ok (.if_icmp .eq 14, 3) := by decide +kernel
theorem dX4_read_61 : decode cX4_read 61 = .ok (.aload_n 0, 1) := by decide +kernel
theorem dX4_read_62 : decode cX4_read 62 = .ok (.invokevirtual 52, 3) := by decide +kernel
theorem dX4_read_65 : decode cX4_read 65 = .ok (.istore_n 2, 1) := by decide +kernel
theorem dX4_read_66 : decode cX4_read 66 = .ok (.iinc 3 1, 3) := by decide +kernel
theorem dX4_read_69 : decode cX4_read 69 = .ok (.goto (-27), 3) := by decide +kernel
theorem dX4_read_72 : decode cX4_read 72 = .ok (.aload_n 0, 1) := by decide +kernel
theorem dX4_read_73 : decode cX4_read 73 = .ok (.getfield 38, 3) := by decide +kernel
theorem dX4_read_76 : decode cX4_read 76 = .ok (.ireturn, 1) := by decide +kernel
set_option maxHeartbeats 4000000 in
set_option maxRecDepth 100000 in
theorem m_X4_read (l : Launch) (g : Mem) (n : Int) (mem : Mem) (hn : n = g 0 7) (hTp : ∀ p : Nat, p < 400 → mem 176 p = iand (g 6 p) 255) (hT0 : 0 ≤ g 0 7 ∧ g 0 7 ≤ 400) (h10 : 0 ≤ g 0 10 ∧ g 0 10 ≤ 400) (hBy : ∀ k : Nat, -128 ≤ g 6 k ∧ g 6 k ≤ 127) (hZ : ∀ k : Nat, 459 ≤ k → g 2 k = 0) (hZ7 : ∀ k : Nat, g 7 k = 0 ∨ g 7 k = 1) : Ret shp l yX4_read cX4_read 4 (some .int) 6 [pR 175, pI n] mem (fun rv mv => ∃ z, rv = some (pI z) ∧ (∀ c, (c < 32 ∨ 42 < c) → c ≠ 175 → mv c = mem c) ∧ (tellH g 0 9 = -1 ∧ z = 0 ∧ RH (tellH g) mv ∧ 1 ≤ tellH g 2 0 ∨ tellH g 0 9 ≠ -1 ∧ z = tellH g 0 9 ∧ z ≠ 0)) := by
  refine ret_of (by decide +kernel) (Nat.le_of_ble_eq_true rfl) (fun X hX F G => ?_)
  show Ok shp X 4 0 [(0, pR 175), (1, pI n)] [] mem
  refine ok_aload_n F dX4_read_0 0 rfl ?_
  refine ok_iload_n F dX4_read_1 1 rfl ?_
  refine ok_aload_n F dX4_read_2 0 rfl ?_
  refine ok_getr F dX4_read_3 kF_X4_18 sh_175 rfl ?_
  refine ok_alen F dX4_read_6 sh_176 (by decide) ?_
  refine ok_mmin F dX4_read_7 kL_X4_22 kS_J9_min_7cf53 kM_J9_min_7cf53.2.1 kM_J9_min_7cf53.2.2.1 (by omega) (by omega) (by decide) (Nat.le_of_ble_eq_true rfl) ?_
  refine ok_putf F dX4_read_10 kF_X4_28 sh_175 rfl rfl rfl (fun m_1 e_2 => ?_)
  refine ok_aload_n F dX4_read_13 0 rfl ?_
  refine ok_iconst F dX4_read_14 ?_
  refine ok_putf F dX4_read_15 kF_X4_32 sh_175 rfl rfl rfl (fun m_3 e_4 => ?_)
  refine ok_aload_n F dX4_read_18 0 rfl ?_
  refine ok_iconst F dX4_read_19 ?_
  refine ok_putf F dX4_read_20 kF_X4_35 sh_175 rfl rfl rfl (fun m_5 e_6 => ?_)
  refine ok_aload_n F dX4_read_23 0 rfl ?_
  refine ok_iconst F dX4_read_24 ?_
  refine ok_putf F dX4_read_25 kF_X4_38 sh_175 rfl rfl rfl (fun m_7 e_8 => ?_)
  refine ok_aload_n F dX4_read_28 0 rfl ?_
  refine ok_getr F dX4_read_29 kF_X4_12 sh_175 rfl ?_
  obtain ⟨mA, hmA⟩ : ∃ x, x = m_7 := ⟨_, rfl⟩
  have aO : ∀ c, c ≠ 175 → mA c = mem c := fun c hc => by rw [hmA, e_8, e_6, e_4, e_2]; simp only [mset_nka hc]
  have a176 := aO 176 (by decide)
  have a2 : mA 175 2 = g 0 7 := by rw [hmA, e_8, e_6, e_4, e_2]; simp [mset]; omega
  have a3 : mA 175 3 = 0 := by rw [hmA, e_8, e_6, e_4, e_2]; simp [mset]
  have a6 : mA 175 6 = 0 := by rw [hmA, e_8, e_6, e_4, e_2]; simp [mset]
  have a7 : mA 175 7 = 0 := by rw [hmA, e_8, e_6, e_4, e_2]; simp [mset]
  refine ok_callv F [] dX4_read_32 kM_X6_clear kI_X6_clear kV_X6_clear kL_X4_41 (ci := 6) rfl sh_32 rfl (by decide) (Nat.le_of_ble_eq_true rfl) rfl (m_X6_clear _ m_7) ?_
  rintro _ m_9 ⟨rfl, e_10⟩
  have eC := e_10
  obtain ⟨mC, hmC⟩ : ∃ x, x = m_9 := ⟨_, rfl⟩
  rw [← hmC, ← hmA] at eC
  obtain ⟨hR0, x0, x1, x2, xs⟩ := tel_start (by intro p hp; rw [a176]; exact hTp p hp) hT0 h10 hBy hZ hZ7 a2 a3 a6 eC
  have cC : ∀ c, (c < 32 ∨ 39 < c) → mC c = mA c := fun c hc => by rw [eC]; exact clr_out hc
  have c7 : mC 175 7 = 0 := by rw [cC 175 (by decide)]; exact a7
  refine ok_aload_n F dX4_read_35 0 rfl ?_
  refine ok_callv F [] dX4_read_36 kM_X4_readKinds kI_X4_readKinds kV_X4_readKinds kL_X4_44 (ci := 4) rfl sh_175 rfl (by decide) (Nat.le_of_ble_eq_true rfl) rfl (m_X4_readKinds _ (tl0 g) m_9 (by rw [← hmC]; exact hR0) (x0) (x1) (x2) (xs)) ?_
  rintro _ m_12 ⟨z_11, rfl, r_13⟩
  obtain ⟨k1, k2⟩ := id r_13
  rw [← hmC] at k1 k2
  have hT1 := TelL.fst hR0.2.1.2.2.2.1 hR0.1 c7 k2
  have hz1 : z_11 = 1 ∨ z_11 = 0 := k2.elim (fun w => Or.inl w.1) (fun w => Or.inr w.1)
  obtain ⟨GK, hGK⟩ : ∃ x, x = kindsL 10 (tl1 (tl0 g)) := ⟨_, rfl⟩
  rw [← hGK] at r_13
  clear k2 hGK
  refine ok_istore_n (lv' := [(2, pI z_11), (0, pR 175), (1, pI n)]) F dX4_read_39 (by decide) rfl ?_
  refine ok_iconst F dX4_read_40 ?_
  refine ok_istore_n (lv' := [(3, pI 0), (2, pI z_11), (0, pR 175), (1, pI n)]) F dX4_read_41 (by decide) rfl ?_
  have hL_42 : ∀ (n_42 : Nat) (b : Int) (i : Int) (m : Mem), (0 ≤ i ∧ i ≤ 401 ∧ (b = 0 ∨ b = 1) ∧ TelL g m i b ∧ (∀ c, (c < 32 ∨ 42 < c) → c ≠ 175 → m c = mem c)) → (401 - i).toNat = n_42 → Ok shp X 4 42 [(0, pR 175), (1, pI n), (2, pI b), (3, pI i)] [] m := by
    intro n_42
    induction n_42 using Nat.strongRecOn with
    | _ n_42 ih_42 =>
      intro b i m hI_42 hn_42
      obtain ⟨hi0, hi1, hb01, hL, hF⟩ := hI_42
      refine ok_iload_n F dX4_read_42 3 rfl ?_
      refine ok_sipush F dX4_read_43 rfl ?_
      refine ok_icmp_gt F 72 dX4_read_46 (by decide) (by omega) (by omega) (fun c_14 => ?_) (fun c_14 => ?_)
      · refine ok_aload_n F dX4_read_72 0 rfl ?_
        refine ok_getf (v := m 175 7) F dX4_read_73 kF_X4_38 sh_175 rfl rfl ?_
        refine ok_iret F G dX4_read_76 ?_
        first
          | (obtain ⟨t1, t2, t3⟩ := hL.no (by omega)
             exact ⟨_, rfl, hF, Or.inr ⟨t1, t3, by rw [t3]; exact t2⟩⟩)
          | (obtain ⟨t1, t2, t3, t4⟩ := tel_end hn0 hE hH hk (by omega) eN
             exact ⟨_, rfl, fun c hc h5 => by rw [eN, mset_nka h5]; exact hF c hc h5, Or.inl ⟨t4, by rw [eN, mset_ne (by decide)]; exact h7, t2, t3⟩⟩)
      · refine ok_iload_n F dX4_read_49 2 rfl ?_
        refine ok_if_eq F 72 dX4_read_50 (by decide) (by omega) (fun c_15 => ?_) (fun c_15 => ?_)
        · refine ok_aload_n F dX4_read_72 0 rfl ?_
          refine ok_getf (v := m 175 7) F dX4_read_73 kF_X4_38 sh_175 rfl rfl ?_
          refine ok_iret F G dX4_read_76 ?_
          first
            | (obtain ⟨t1, t2, t3⟩ := hL.no (by omega)
               exact ⟨_, rfl, hF, Or.inr ⟨t1, t3, by rw [t3]; exact t2⟩⟩)
            | (obtain ⟨t1, t2, t3, t4⟩ := tel_end hn0 hE hH hk (by omega) eN
               exact ⟨_, rfl, fun c hc h5 => by rw [eN, mset_nka h5]; exact hF c hc h5, Or.inl ⟨t4, by rw [eN, mset_ne (by decide)]; exact h7, t2, t3⟩⟩)
        · obtain ⟨H, n0, hn0, hE, hH, hk, hi8, h7⟩ := hL.yes (by omega)
          have hok := hH.2.1.2.2.2.1
          obtain ⟨pD, pT, pP, aD, aT, eP1, pid, hle, pN, p99, p9t⟩ := pt_ok hok
          refine ok_aload_n F dX4_read_53 0 rfl ?_
          refine ok_callv F [] dX4_read_54 kM_X4_next kI_X4_next kV_X4_next kL_X4_48 (ci := 4) rfl sh_175 rfl (by decide) (Nat.le_of_ble_eq_true rfl) rfl (m_X4_next _ H m (hH.2.1)) ?_
          rintro _ m_16 ⟨rfl, e_17⟩
          have eN := e_17
          have hsb := sgn_bd H (ptP H)
          refine ok_iconst F dX4_read_57 ?_
          refine ok_icmp_eq F 72 dX4_read_58 (by decide) (by omega) (by omega) (fun c_18 => ?_) (fun c_18 => ?_)
          · refine ok_aload_n F dX4_read_72 0 rfl ?_
            refine ok_getf (v := m_16 175 7) F dX4_read_73 kF_X4_38 sh_175 rfl rfl ?_
            refine ok_iret F G dX4_read_76 ?_
            first
              | (obtain ⟨t1, t2, t3⟩ := hL.no (by omega)
                 exact ⟨_, rfl, hF, Or.inr ⟨t1, t3, by rw [t3]; exact t2⟩⟩)
              | (obtain ⟨t1, t2, t3, t4⟩ := tel_end hn0 hE hH hk (by omega) eN
                 exact ⟨_, rfl, fun c hc h5 => by rw [eN, mset_nka h5]; exact hF c hc h5, Or.inl ⟨t4, by rw [eN, mset_ne (by decide)]; exact h7, t2, t3⟩⟩)
          · refine ok_aload_n F dX4_read_61 0 rfl ?_
            refine ok_callv F [] dX4_read_62 kM_X4_readPart kI_X4_readPart kV_X4_readPart kL_X4_52 (ci := 4) rfl sh_175 rfl (by decide) (Nat.le_of_ble_eq_true rfl) rfl (m_X4_readPart _ (ptD H) m_16 (by rw [eN]; exact hH.next) (by rw [aD 2 (by decide)]; exact hk)) ?_
            rintro _ m_20 ⟨z_19, rfl, r_21⟩
            obtain ⟨p1, p2⟩ := id r_21
            have hz2 : z_19 = 0 ∨ z_19 = 1 := p2.elim (fun w => Or.inr w.1) (fun w => Or.inl w.1)
            have hTs := fun q => tel_step (i := i) hn0 hE hH hi8 (by rw [eN, mset_ne (by decide)]; exact h7) p2 q
            obtain ⟨PK, hPK⟩ : ∃ x, x = partM (nxt (ptD H)) := ⟨_, rfl⟩
            rw [← hPK] at r_21
            clear p2 hPK
            refine ok_istore_n (lv' := [(2, pI z_19), (0, pR 175), (1, pI n), (3, pI i)]) F dX4_read_65 (by decide) rfl ?_
            refine ok_iinc (lv' := [(3, pI (i + 1)), (2, pI z_19), (0, pR 175), (1, pI n)]) F dX4_read_66 3 rfl (by decide) rfl ?_
            refine ok_goto F 42 dX4_read_69 (by decide) ?_
            refine ok_lvp [2, 3, 1, 0] (lv' := [(0, pR 175), (1, pI n), (2, pI z_19), (3, pI (i + 1))]) rfl ?_
            refine ih_42 _ ?_ z_19 (i + 1) m_20 ?_ rfl
            · omega
            · refine ⟨by omega, by omega, by omega, hTs (by omega), fun c hc h5 => by rw [p1 c hc h5, eN, mset_nka h5]; exact hF c hc h5⟩
  refine ok_lvp [2, 3, 1, 0] (lv' := [(0, pR 175), (1, pI n), (2, pI z_11), (3, pI 0)]) rfl ?_
  refine hL_42 _ z_11 0 m_12 ?_ rfl
  refine ⟨by omega, by omega, by omega, hT1, fun c hc h5 => ?_⟩
  rw [k1 c hc h5, cC c (by omega), aO c h5]
