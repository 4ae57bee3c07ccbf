/-! the class: rows and days read -/
theorem GR.cell {f f2 : Nat → Int} (hG : GR f) {j0 : Nat} (hj : 11 ≤ j0 ∧ j0 < 43) (e : ∀ j : Nat, j ≠ j0 → f2 j = f j) (hb : 0 ≤ f2 j0 ∧ f2 j0 ≤ 99) (hbag : 35 ≤ j0 → 1 ≤ f2 j0) : GR f2 := by
  obtain ⟨g0, g1, g2, g3, g4, g5, g6, g7, g8, g9⟩ := hG
  have e0 := e 0 (by omega)
  have e1 := e 1 (by omega)
  have e2 := e 2 (by omega)
  refine ⟨by rw [e0]; exact g0, by rw [e1]; exact g1, by rw [e2]; exact g2, fun i hi => by rw [e _ (by omega)]; exact g3 i hi, fun i hi => by rw [e0] at hi; rw [e _ (by omega)]; exact g4 i hi, fun r hr k hk => ?_, fun i hi => ?_, fun s hs => ?_, fun s hs => ?_, ?_⟩
  · by_cases z : 11 + 8 * r + k = j0
    · rw [z]; exact hb
    · rw [e _ z]; exact g5 r hr k hk
  · rw [e0] at hi
    by_cases z : 35 + i = j0
    · rw [z]; exact hbag (by omega)
    · rw [e _ z]; exact g6 i hi
  · rw [e2] at hs
    have o1 : sDay f2 s = sDay f s := e _ (by omega)
    have o2 : sPrice f2 s = sPrice f s := e _ (by omega)
    have o3 : ∀ k, sGiven f2 s k = sGiven f s k := fun k => e _ (by omega)
    have ea : abvS f2 s = abvS f s := by
      unfold abvS
      rw [e0, o2, sumN_congr (g := fun k => sGiven f s k * f (3 + k)) (fun k hk => by rw [o3 k, e (3 + k) (by omega)])]
    rw [o1, o2, ea, e1]
    have q := g7 s hs
    exact ⟨q.1, q.2.1, fun k hk => by rw [o3 k]; exact q.2.2.1 k hk, q.2.2.2⟩
  · rw [e2] at hs
    have o1 : ∀ s, sDay f2 s = sDay f s := fun s => e _ (by omega)
    rw [o1, o1]; exact g8 s hs
  · rw [e0, sumN_congr (g := fun k => f (43 + k)) (fun k hk => e _ (by omega))]; exact g9
theorem rowL_bad (s : Nat) (l : Int) : ∀ (c i : Nat) {m : Mem}, m 0 9 ≠ -1 → rowL s l c i m = m
  | 0, _, _, _ => rfl
  | c + 1, i, m, h => by rw [rowL_s, if_neg h]
theorem row_start {g m m1 : Mem} {r : Nat} (hH : RH g m) (hr : r < 4) (h0 : g 7 r = 0) (e : m1 = mset m 175 6 (ior (m 175 6) (ishl 1 (r : Int)))) : RH (mset g 7 r 1) m1 := by
  obtain ⟨a1, a2, a3, a4, a5, a6, a7, a8, a9⟩ := hH
  have k := tol_key ⟨(m 175 6).toNat, by omega⟩ ⟨r, hr⟩
  have e6 : (((⟨(m 175 6).toNat, by omega⟩ : Fin 16).val : Nat) : Int) = m 175 6 := by
    show (((m 175 6).toNat : Nat) : Int) = m 175 6
    omega
  rw [e6] at k
  obtain ⟨k1, k2⟩ := k
  have c2 : mset g 7 r 1 2 = g 2 := mset_nka (by decide)
  have o : ∀ c, c ≠ 175 → m1 c = m c := fun c hc => by rw [e]; exact mset_nka hc
  refine ⟨by rw [mset_nk (by decide)]; exact a1, a2.of (mset_nka (by decide)) (mset_nk (by decide)) (a2.2.2.2.1.cell (mset_nka (by decide))) (o 176 (by decide)) (by rw [e]; exact mset_ne (by decide)) (by rw [e, mset_ne (by decide), mset_nk (by decide)]; exact a2.2.2.1), ?_, by rw [c2]; exact a4, by rw [c2]; exact a5, by rw [e, mset_eq]; exact k1, fun r2 hr2 => ?_, fun r2 => ?_, by rw [c2]; exact a9⟩
  · rw [c2]; exact a3.congr (fun c c1 c2 => o c (by omega))
  · rw [e, mset_eq]
    have q := k2 ⟨r2, hr2⟩
    have q2 : iand (ishr (ior (m 175 6) (ishl 1 (r : Int))) (r2 : Int)) 1 = if r2 = r then 1 else iand (ishr (m 175 6) (r2 : Int)) 1 := q
    rw [q2]
    by_cases z : r2 = r
    · rw [if_pos z, z, mset_eq]
    · rw [if_neg z, mset_ne (fun w => z w.2)]; exact a7 r2 hr2
  · by_cases z : r2 = r
    · rw [z, mset_eq]; exact Or.inr rfl
    · rw [mset_ne (fun w => z w.2)]; exact a8 r2
theorem row_step {H m mQ m2 : Mem} {r i : Nat} {l V : Int} (hH : RH H m) (hr : r < 4) (hi : (i : Int) < H 2 0) (h8 : H 2 0 ≤ 8) (q9 : numM H l 99 0 9 = -1) (hT : RT (numM H l 99) mQ) (hf : ∀ c, c ≠ 175 → mQ c = m c) (h6 : mQ 175 6 = m 175 6) (hV : (numR H l 99).1 = V) (hVb : l ≤ V ∧ V ≤ 99) (hl : 0 ≤ l ∧ (r = 3 → 1 ≤ l)) (e2 : m2 = mset mQ (34 + r) i V) : RH (mset (numM H l 99) 2 (11 + 8 * r + i) (numR H l 99).1) m2 := by
  have hok := hH.2.1.2.2.2.1
  obtain ⟨x1, _⟩ := numM_at H l 99
  obtain ⟨a1, a2, a3, a4, a5, a6, a7, a8, a9⟩ := hH
  rw [hV]
  have n2 := x1 2 (by decide)
  have n7 := x1 7 (by decide)
  have n6 := x1 6 (by decide)
  have f2 : ∀ j : Nat, j ≠ 11 + 8 * r + i → mset (numM H l 99) 2 (11 + 8 * r + i) V 2 j = H 2 j := fun j hj => by rw [mset_ne (fun q => hj q.2), n2]
  have fV : mset (numM H l 99) 2 (11 + 8 * r + i) V 2 (11 + 8 * r + i) = V := mset_eq _ _ _ _
  have fc : ∀ a, a ≠ 2 → mset (numM H l 99) 2 (11 + 8 * r + i) V a = numM H l 99 a := fun a ha => mset_nka ha
  have o : ∀ c, c ≠ 34 + r → m2 c = mQ c := fun c hc => by rw [e2]; exact mset_nka hc
  have g2 := a4.2.2.1
  refine ⟨by rw [fc 0 (by decide)]; exact q9, hT.of (fc 6 (by decide)) (by rw [fc 0 (by decide)]) (hT.2.2.2.1.cell (fc 0 (by decide))) (o 176 (by omega)) (by rw [o 175 (by omega)]) (by rw [o 175 (by omega), fc 0 (by decide)]; exact hT.2.2.1), ?_, ?_, fun j hj => ?_, by rw [o 175 (by omega), h6]; exact a6, by rw [o 175 (by omega), h6, fc 7 (by decide), n7]; exact a7, by rw [fc 7 (by decide), n7]; exact a8, by rw [f2 0 (by omega), f2 1 (by omega)]; exact a9⟩
  · obtain ⟨r0, r1, rr, rs, rd⟩ := a3
    have ee : ∀ d, endF (mset (numM H l 99) 2 (11 + 8 * r + i) V 2) d = endF (H 2) d := fun d => by
      unfold endF
      rw [f2 2 (by omega)]
      refine sumN_congr (fun s hs => ?_)
      rw [show sDay (mset (numM H l 99) 2 (11 + 8 * r + i) V 2) s = sDay (H 2) s from f2 _ (by omega)]
    refine ⟨by rw [o 32 (by omega), hf 32 (by decide), f2 0 (by omega)]; exact r0, by rw [o 32 (by omega), hf 32 (by decide), f2 1 (by omega)]; exact r1, fun r' hr' k hk => ?_, fun s hs => ?_, fun d hd => ?_⟩
    · by_cases y : r' = r + 1
      · subst y
        rw [show 32 + 1 + (r + 1) = 34 + r by omega, show 3 + 8 * (r + 1) + k = 11 + 8 * r + k by omega]
        by_cases z : k = i
        · rw [z, e2, mset_eq, fV]
        · rw [e2, mset_ne (fun q => z q.2), hf _ (by omega), f2 _ (by omega)]
          have := rr (r + 1) hr' k hk
          rw [show 32 + 1 + (r + 1) = 34 + r by omega, show 3 + 8 * (r + 1) + k = 11 + 8 * r + k by omega] at this
          exact this
      · rw [o _ (by omega), hf _ (by omega), f2 _ (by omega)]; exact rr r' hr' k hk
    · rw [f2 2 (by omega)] at hs
      rw [o _ (by omega), hf _ (by omega), o _ (by omega), hf _ (by omega)]
      have q := rs s hs
      exact ⟨by rw [q.1]; exact (f2 _ (by omega)).symm, fun k hk => by rw [q.2 k hk]; exact (f2 _ (by omega)).symm⟩
    · rw [f2 1 (by omega)] at hd
      rw [o _ (by omega), hf _ (by omega), ee]; exact rd d hd
  · exact a4.cell (j0 := 11 + 8 * r + i) (by omega) f2 (by rw [fV]; omega) (fun hj => by rw [fV]; omega)
  · rw [f2 2 (by omega)] at hj
    rw [f2 j (by omega)]; exact a5 j hj
theorem m_X6_rowOf_32_0 (l : Launch) (mem : Mem) : Ret shp l yX6_rowOf cX6_rowOf 2 (some (.array .int)) 0 [pR 32, pI 0] mem (fun rv mv => rv = some (pR 34) ∧ mem = mv) := m_X6_rowOf_32 l 0 mem (by omega)
theorem m_X6_rowOf_32_1 (l : Launch) (mem : Mem) : Ret shp l yX6_rowOf cX6_rowOf 2 (some (.array .int)) 0 [pR 32, pI 1] mem (fun rv mv => rv = some (pR 35) ∧ mem = mv) := m_X6_rowOf_32 l 1 mem (by omega)
theorem m_X6_rowOf_32_2 (l : Launch) (mem : Mem) : Ret shp l yX6_rowOf cX6_rowOf 2 (some (.array .int)) 0 [pR 32, pI 2] mem (fun rv mv => rv = some (pR 36) ∧ mem = mv) := m_X6_rowOf_32 l 2 mem (by omega)
theorem m_X6_rowOf_32_3 (l : Launch) (mem : Mem) : Ret shp l yX6_rowOf cX6_rowOf 2 (some (.array .int)) 0 [pR 32, pI 3] mem (fun rv mv => rv = some (pR 37) ∧ mem = mv) := m_X6_rowOf_32 l 3 mem (by omega)
theorem dX4_readRow_0 : decode cX4_readRow 0 = .ok (.aload_n 0, 1) := by decide +kernel
theorem dX4_readRow_1 : decode cX4_readRow 1 = .ok (.getfield 35, 3) := by decide +kernel
theorem dX4_readRow_4 : decode cX4_readRow 4 = .ok (.iload_n 1, 1) := by decide +kernel
theorem dX4_readRow_5 : decode cX4_readRow 5 = .ok (.ishr, 1) := by decide +kernel
theorem dX4_readRow_6 : decode cX4_readRow 6 = .ok (.iconst 1, 1) := by decide +kernel
theorem dX4_readRow_7 : decode cX4_readRow 7 = .ok (.iand, 1) := by decide +kernel
theorem dX4_readRow_8 : decode cX4_readRow 8 = .ok (.iconst 1, 1) := by decide +kernel
theorem dX4_readRow_9 : decode cX4_readRow 9 = .ok (.if_icmp .ne 13, 3) := by decide +kernel
theorem dX4_readRow_12 : decode cX4_readRow 12 = .ok (.aload_n 0, 1) := by decide +kernel
theorem dX4_readRow_13 : decode cX4_readRow 13 = .ok (.aload_n 0, 1) := by decide +kernel
theorem dX4_readRow_14 : decode cX4_readRow 14 = .ok (.getfield 63, 3) := by decide +kernel
theorem dX4_readRow_17 : decode cX4_readRow 17 = .ok (.iconst 3, 1) := by decide +kernel
theorem dX4_readRow_18 : decode cX4_readRow 18 = .ok (.invokevirtual 59, 3) := by decide +kernel
theorem dX4_readRow_21 : decode cX4_readRow 21 = .ok (.ireturn, 1) := by decide +kernel
theorem dX4_readRow_22 : decode cX4_readRow 22 = .ok (.aload_n 0, 1) := by decide +kernel
theorem dX4_readRow_23 : decode cX4_readRow 23 = .ok (.dup, 1) := by decide +kernel
theorem dX4_readRow_24 : decode cX4_readRow 24 = .ok (.getfield 35, 3) := by decide +kernel
theorem dX4_readRow_27 : decode cX4_readRow 27 = .ok (.iconst 1, 1) := by decide +kernel
theorem dX4_readRow_28 : decode cX4_readRow 28 = .ok (.iload_n 1, 1) := by decide +kernel
theorem dX4_readRow_29 : decode cX4_readRow 29 = .ok (.ishl, 1) := by decide +kernel
theorem dX4_readRow_30 : decode cX4_readRow 30 = .ok (.ior, 1) := by decide +kernel
theorem dX4_readRow_31 : decode cX4_readRow 31 = .ok (.putfield 35, 3) := by decide +kernel
theorem dX4_readRow_34 : decode cX4_readRow 34 = .ok (.aload_n 0, 1) := by decide +kernel
theorem dX4_readRow_35 : decode cX4_readRow 35 = .ok (.getfield 12, 3) := by decide +kernel
theorem dX4_readRow_38 : decode cX4_readRow 38 = .ok (.iload_n 1, 1) := by decide +kernel
theorem dX4_readRow_39 : decode cX4_readRow 39 = .ok (.invokevirtual 125, 3) := by decide +kernel
theorem dX4_readRow_42 : decode cX4_readRow 42 = .ok (.astore_n 3, 1) := by decide +kernel
theorem dX4_readRow_43 : decode cX4_readRow 43 = .ok (.iconst 0, 1) := by decide +kernel
theorem dX4_readRow_44 : decode cX4_readRow 44 = .ok (.istore 4, 2) := by decide +kernel
theorem dX4_readRow_46 : decode cX4_readRow 46 = .ok (.iload 4, 2) := by decide +kernel
theorem dX4_readRow_48 : decode cX4_readRow 48 = .ok (.aload_n 0, 1) := by decide +kernel
theorem dX4_readRow_49 : decode cX4_readRow 49 = .ok (.getfield 12, 3) := by decide +kernel
theorem dX4_readRow_52 : decode cX4_readRow 52 = .ok (.getfield 102, 3) := by decide +kernel
theorem dX4_readRow_55 : decode cX4_readRow 55 = .ok (.if_icmp .ge 29, 3) := by decide +kernel
theorem dX4_readRow_58 : decode cX4_readRow 58 = .ok (.aload_n 0, 1) := by decide +kernel
theorem dX4_readRow_59 : decode cX4_readRow 59 = .ok (.iload_n 2, 1) := by decide +kernel
theorem dX4_readRow_60 : decode cX4_readRow 60 = .ok (.bipush 99, 2) := by decide +kernel
theorem dX4_readRow_62 : decode cX4_readRow 62 = .ok (.invokevirtual 96, 3) := by decide +kernel
theorem dX4_readRow_65 : decode cX4_readRow 65 = .ok (.ifCond .ne 5, 3) := by decide +kernel
theorem dX4_readRow_68 : decode cX4_readRow 68 = .ok (.iconst 0, 1) := by decide +kernel
theorem dX4_readRow_69 : decode cX4_readRow 69 = .ok (.ireturn, 1) := by decide +kernel
theorem dX4_readRow_70 : decode cX4_readRow 70 = .ok (.aload_n 3, 1) := by decide +kernel
theorem dX4_readRow_71 : decode cX4_readRow 71 = .ok (.iload 4, 2) := by decide +kernel
theorem dX4_readRow_73 : decode cX4_readRow 73 = .ok (.aload_n 0, 1) := by decide +kernel
theorem dX4_readRow_74 : decode cX4_readRow 74 = .ok (.getfield 81, 3) := by decide +kernel
theorem dX4_readRow_77 : decode cX4_readRow 77 = .ok (.iastore, 1) := by decide +kernel
theorem dX4_readRow_78 : decode cX4_readRow 78 = .ok (.iinc 4 1, 3) := by decide +kernel
theorem dX4_readRow_81 : decode cX4_readRow 81 = .ok (.goto (-35), 3) := by decide +kernel
theorem dX4_readRow_84 : decode cX4_readRow 84 = .ok (.iconst 1, 1) := by decide +kernel
theorem dX4_readRow_85 : decode cX4_readRow 85 = .ok (.ireturn, 1) := by decide +kernel
set_option maxHeartbeats 4000000 in
set_option maxRecDepth 100000 in
theorem m_X4_readRow_0 (l : Launch) (g : Mem) (mem : Mem) (hH : RH g mem) (hp : 0 ≤ mem 175 4 ∧ mem 175 4 ≤ 400) : Ret shp l yX4_readRow cX4_readRow 5 (some .boolean) 3 [pR 175, pI 0, pI 0] mem (fun rv mv => ∃ z, rv = some (pI z) ∧ (∀ c, (c < 32 ∨ 42 < c) → c ≠ 175 → mv c = mem c) ∧ (z = 1 ∧ RH (readRowM g 0 (mem 175 4) 11 0) mv ∧ (readRowM g 0 (mem 175 4) 11 0) 2 0 = g 2 0 ∧ mv 175 7 = mem 175 7 ∨ z = 0 ∧ (readRowM g 0 (mem 175 4) 11 0) 0 9 ≠ -1 ∧ mv 175 7 = (readRowM g 0 (mem 175 4) 11 0) 0 9)) := by
  refine ret_of (by decide +kernel) (Nat.le_of_ble_eq_true rfl) (fun X hX F G => ?_)
  show Ok shp X 5 0 [(0, pR 175), (1, pI 0), (2, pI 0)] [] mem
  obtain ⟨a1, a2, a3, a4, a5, a6, a7, a8, a9⟩ := id hH
  have hbit : iand (ishr (mem 175 6) 0) 1 = g 7 0 := a7 0 (by decide)
  have h70 := a8 0
  have hN := a4.1
  refine ok_aload_n F dX4_readRow_0 0 rfl ?_
  refine ok_getf (v := mem 175 6) F dX4_readRow_1 kF_X4_35 sh_175 rfl rfl ?_
  refine ok_iload_n F dX4_readRow_4 1 rfl ?_
  refine ok_ishr F dX4_readRow_5 ?_
  refine ok_iconst F dX4_readRow_6 ?_
  refine ok_iand F dX4_readRow_7 ?_
  refine ok_iconst F dX4_readRow_8 ?_
  refine ok_icmp_ne F 22 dX4_readRow_9 (by decide) (by omega) (by omega) (fun c_1 => ?_) (fun c_1 => ?_)
  · refine ok_aload_n F dX4_readRow_22 0 rfl ?_
    refine ok_dup F dX4_readRow_23 rfl ?_
    refine ok_getf (v := mem 175 6) F dX4_readRow_24 kF_X4_35 sh_175 rfl rfl ?_
    refine ok_iconst F dX4_readRow_27 ?_
    refine ok_iload_n F dX4_readRow_28 1 rfl ?_
    refine ok_ishl F dX4_readRow_29 ?_
    refine ok_ior F dX4_readRow_30 ?_
    refine ok_putf F dX4_readRow_31 kF_X4_35 sh_175 rfl rfl rfl (fun m_2 e_3 => ?_)
    have h7z : g 7 0 = 0 := by omega
    have hst : RH (mset g 7 0 1) m_2 := row_start hH (by decide) h7z e_3
    obtain ⟨m1, hm1⟩ : ∃ x, x = m_2 := ⟨_, rfl⟩
    have f1 : ∀ c, c ≠ 175 → m1 c = mem c := fun c hc => by rw [hm1, e_3]; exact mset_nka hc
    have f17 : m1 175 7 = mem 175 7 := by rw [hm1, e_3]; exact mset_ne (by decide)
    have hK0 : (readRowM g 0 (mem 175 4) 11 0) = rowL 11 0 (g 2 0).toNat 0 (mset g 7 0 1) := by
      unfold readRowM
      rw [if_neg (by omega)]
    refine ok_aload_n F dX4_readRow_34 0 rfl ?_
    refine ok_getr F dX4_readRow_35 kF_X4_12 sh_175 rfl ?_
    refine ok_iload_n F dX4_readRow_38 1 rfl ?_
    refine ok_callv F [pI 0] dX4_readRow_39 kM_X6_rowOf kI_X6_rowOf kV_X6_rowOf kL_X4_125 (ci := 6) rfl sh_32 rfl (by decide) (Nat.le_of_ble_eq_true rfl) rfl (m_X6_rowOf_32_0 _ m_2) ?_
    rintro _ _ ⟨rfl, rfl⟩
    refine ok_astore_n (lv' := [(3, pR 34), (0, pR 175), (1, pI 0), (2, pI 0)]) F dX4_readRow_42 (by decide) rfl ?_
    refine ok_iconst F dX4_readRow_43 ?_
    refine ok_istore (lv' := [(4, pI 0), (3, pR 34), (0, pR 175), (1, pI 0), (2, pI 0)]) F dX4_readRow_44 (by decide) rfl ?_
    have hL_46 : ∀ (n_46 : Nat) (i : Int) (m : Mem), (∃ H : Mem, (readRowM g 0 (mem 175 4) 11 0) = rowL 11 0 (g 2 0 - i).toNat i.toNat H ∧ RH H m ∧ H 2 0 = g 2 0 ∧ (0 ≤ i ∧ i ≤ g 2 0) ∧ (∀ c, (c < 32 ∨ 42 < c) → c ≠ 175 → m c = mem c) ∧ m 175 7 = mem 175 7) → (g 2 0 - i).toNat = n_46 → Ok shp X 5 46 [(0, pR 175), (1, pI 0), (2, pI 0), (3, pR 34), (4, pI i)] [] m := by
      intro n_46
      induction n_46 using Nat.strongRecOn with
      | _ n_46 ih_46 =>
        intro i m hI_46 hn_46
        obtain ⟨H, hK, hHG, hH0, hib, hF, hF7⟩ := hI_46
        have hm320 : m 32 0 = H 2 0 := hHG.2.2.1.1
        refine ok_iload F dX4_readRow_46 4 rfl ?_
        refine ok_aload_n F dX4_readRow_48 0 rfl ?_
        refine ok_getr F dX4_readRow_49 kF_X4_12 sh_175 rfl ?_
        refine ok_getf (v := m 32 0) F dX4_readRow_52 kF_X4_102 sh_32 rfl rfl ?_
        refine ok_icmp_ge F 84 dX4_readRow_55 (by decide) (by omega) (by omega) (fun c_4 => ?_) (fun c_4 => ?_)
        · refine ok_iconst F dX4_readRow_84 ?_
          refine ok_zret F G dX4_readRow_85 (by first | rfl | exact zb_nar) ?_
          have hKH : (readRowM g 0 (mem 175 4) 11 0) = H := by
            rw [hK, show (g 2 0 - i).toNat = 0 by omega]
            rfl
          exact ⟨_, rfl, hF, Or.inl ⟨rfl, by rw [hKH]; exact hHG, by rw [hKH]; exact hH0, hF7⟩⟩
        · refine ok_aload_n F dX4_readRow_58 0 rfl ?_
          refine ok_iload_n F dX4_readRow_59 2 rfl ?_
          refine ok_bipush F dX4_readRow_60 rfl ?_
          refine ok_callv F [pI 0, pI 99] dX4_readRow_62 kM_X4_readBounded kI_X4_readBounded kV_X4_readBounded kL_X4_96 (ci := 4) rfl sh_175 rfl (by decide) (Nat.le_of_ble_eq_true rfl) rfl (m_X4_readBounded _ H 0 99 m (hHG.2.1) (hHG.1) (by omega) (by omega)) ?_
          rintro _ m_6 ⟨z_5, rfl, r_7⟩
          obtain ⟨u1, u2⟩ := id r_7
          obtain ⟨mQ, hmQ⟩ : ∃ x, x = m_6 := ⟨_, rfl⟩
          rw [← hmQ] at u1 u2
          have hz02 : z_5 = 1 ∨ z_5 = 0 := u2.elim (fun w => Or.inl w.1) (fun w => Or.inr w.1)
          refine ok_if_ne F 70 dX4_readRow_65 (by decide) (by omega) (fun c_8 => ?_) (fun c_8 => ?_)
          · obtain ⟨_, v1, v2, v3, v4, v5, v6, v7⟩ := u2.resolve_right (fun q => by have := q.1; omega)
            refine ok_aload_n F dX4_readRow_70 3 rfl ?_
            refine ok_iload F dX4_readRow_71 4 rfl ?_
            refine ok_aload_n F dX4_readRow_73 0 rfl ?_
            refine ok_getf (v := m_6 175 5) F dX4_readRow_74 kF_X4_81 sh_175 rfl rfl ?_
            refine ok_iast F dX4_readRow_77 sh_34 (by first | decide | assumption) (by omega) (by omega) (fun m_9 e_10 => ?_)
            have e2x : m_9 = mset mQ (34 + 0) i.toNat (mQ 175 5) := by rw [e_10, ← hmQ]
            have hnx : RH (mset (numM H 0 99) 2 (11 + i.toNat) (numR H 0 99).1) m_9 := row_step (V := mQ 175 5) (r := 0) (i := i.toNat) hHG (by decide) (by omega) (by omega) v1 v2 u1 v6 v3.symm (by rw [v3]; exact v4) (by omega) e2x
            refine ok_iinc (lv' := [(4, pI (i + 1)), (0, pR 175), (1, pI 0), (2, pI 0), (3, pR 34)]) F dX4_readRow_78 4 rfl (by decide) rfl ?_
            refine ok_goto F 46 dX4_readRow_81 (by decide) ?_
            refine ok_lvp [1, 2, 3, 4, 0] (lv' := [(0, pR 175), (1, pI 0), (2, pI 0), (3, pR 34), (4, pI (i + 1))]) rfl ?_
            refine ih_46 _ ?_ (i + 1) m_9 ?_ rfl
            · omega
            · refine ⟨_, ?_, hnx, ?_, by omega, fun c hc h5 => ?_, ?_⟩
              · rw [hK, show (g 2 0 - i).toNat = (g 2 0 - (i + 1)).toNat + 1 by omega, rowL_s, if_pos hHG.1, show (i + 1).toNat = i.toNat + 1 by omega]
              · rw [mset_ne (by omega), (numM_at H _ 99).1 2 (by decide)]; exact hH0
              · rw [e2x, mset_nka (by omega), u1 c h5]; exact hF c hc h5
              · rw [e2x, mset_nk (by decide), v7]; exact hF7
          · refine ok_iconst F dX4_readRow_68 ?_
            refine ok_zret F G dX4_readRow_69 (by first | rfl | exact zb_nar) ?_
            obtain ⟨_, v1, v2⟩ := u2.resolve_left (fun q => by have := q.1; omega)
            have hK9 : (readRowM g 0 (mem 175 4) 11 0) 0 9 = numM H 0 99 0 9 := by
              rw [hK, show (g 2 0 - i).toNat = (g 2 0 - (i + 1)).toNat + 1 by omega, rowL_s, if_pos hHG.1]
              have q : mset (numM H 0 99) 2 (11 + i.toNat) (numR H 0 99).1 0 9 = numM H 0 99 0 9 := mset_nk (by decide)
              rw [rowL_bad _ _ _ _ (by rw [q]; exact v1), q]
            refine ⟨_, rfl, fun c hc h5 => by rw [← hmQ, u1 c h5]; exact hF c hc h5, Or.inr ⟨rfl, by rw [hK9]; exact v1, by rw [hK9, ← hmQ]; exact v2⟩⟩
    refine ok_lvp [2, 3, 4, 1, 0] (lv' := [(0, pR 175), (1, pI 0), (2, pI 0), (3, pR 34), (4, pI 0)]) rfl ?_
    refine hL_46 _ 0 m_2 ?_ rfl
    rw [← hm1]
    refine ⟨mset g 7 0 1, by rw [hK0, Int.sub_zero]; rfl, by rw [hm1]; exact hst, by rw [mset_nk (by decide)], by omega, fun c _ hc => f1 c hc, f17⟩
  · refine ok_aload_n F dX4_readRow_12 0 rfl ?_
    refine ok_aload_n F dX4_readRow_13 0 rfl ?_
    refine ok_getf (v := mem 175 4) F dX4_readRow_14 kF_X4_63 sh_175 rfl rfl ?_
    refine ok_iconst F dX4_readRow_17 ?_
    refine ok_callv F [pI (mem 175 4), pI 3] dX4_readRow_18 kM_X4_wrong kI_X4_wrong kV_X4_wrong kL_X4_59 (ci := 4) rfl sh_175 rfl (by decide) (Nat.le_of_ble_eq_true rfl) rfl (m_X4_wrong _ (mem 175 4) 3 mem) ?_
    rintro _ m_11 ⟨rfl, e_12⟩
    have eW := e_12
    refine ok_zret F G dX4_readRow_21 (rfl) ?_
    have hK9 : (readRowM g 0 (mem 175 4) 11 0) 0 9 = 8 * mem 175 4 + 3 := by
      unfold readRowM
      rw [if_pos (by omega)]
      have q : mset (flM g 3 (mem 175 4)) 7 0 1 0 9 = 8 * mem 175 4 + 3 := by
        rw [mset_nk (by decide)]
        unfold flM
        rw [if_pos a1, mset_eq]
      rw [rowL_bad _ _ _ _ (by rw [q]; omega), q]
    refine ⟨_, rfl, fun c _ hc => by rw [eW, mset_nka hc], Or.inr ⟨rfl, by rw [hK9]; omega, by rw [hK9, eW, mset_eq]⟩⟩
set_option maxHeartbeats 4000000 in
set_option maxRecDepth 100000 in
theorem m_X4_readRow_1 (l : Launch) (g : Mem) (mem : Mem) (hH : RH g mem) (hp : 0 ≤ mem 175 4 ∧ mem 175 4 ≤ 400) : Ret shp l yX4_readRow cX4_readRow 5 (some .boolean) 3 [pR 175, pI 1, pI 0] mem (fun rv mv => ∃ z, rv = some (pI z) ∧ (∀ c, (c < 32 ∨ 42 < c) → c ≠ 175 → mv c = mem c) ∧ (z = 1 ∧ RH (readRowM g 1 (mem 175 4) 19 0) mv ∧ (readRowM g 1 (mem 175 4) 19 0) 2 0 = g 2 0 ∧ mv 175 7 = mem 175 7 ∨ z = 0 ∧ (readRowM g 1 (mem 175 4) 19 0) 0 9 ≠ -1 ∧ mv 175 7 = (readRowM g 1 (mem 175 4) 19 0) 0 9)) := by
  refine ret_of (by decide +kernel) (Nat.le_of_ble_eq_true rfl) (fun X hX F G => ?_)
  show Ok shp X 5 0 [(0, pR 175), (1, pI 1), (2, pI 0)] [] mem
  obtain ⟨a1, a2, a3, a4, a5, a6, a7, a8, a9⟩ := id hH
  have hbit : iand (ishr (mem 175 6) 1) 1 = g 7 1 := a7 1 (by decide)
  have h70 := a8 1
  have hN := a4.1
  refine ok_aload_n F dX4_readRow_0 0 rfl ?_
  refine ok_getf (v := mem 175 6) F dX4_readRow_1 kF_X4_35 sh_175 rfl rfl ?_
  refine ok_iload_n F dX4_readRow_4 1 rfl ?_
  refine ok_ishr F dX4_readRow_5 ?_
  refine ok_iconst F dX4_readRow_6 ?_
  refine ok_iand F dX4_readRow_7 ?_
  refine ok_iconst F dX4_readRow_8 ?_
  refine ok_icmp_ne F 22 dX4_readRow_9 (by decide) (by omega) (by omega) (fun c_1 => ?_) (fun c_1 => ?_)
  · refine ok_aload_n F dX4_readRow_22 0 rfl ?_
    refine ok_dup F dX4_readRow_23 rfl ?_
    refine ok_getf (v := mem 175 6) F dX4_readRow_24 kF_X4_35 sh_175 rfl rfl ?_
    refine ok_iconst F dX4_readRow_27 ?_
    refine ok_iload_n F dX4_readRow_28 1 rfl ?_
    refine ok_ishl F dX4_readRow_29 ?_
    refine ok_ior F dX4_readRow_30 ?_
    refine ok_putf F dX4_readRow_31 kF_X4_35 sh_175 rfl rfl rfl (fun m_2 e_3 => ?_)
    have h7z : g 7 1 = 0 := by omega
    have hst : RH (mset g 7 1 1) m_2 := row_start hH (by decide) h7z e_3
    obtain ⟨m1, hm1⟩ : ∃ x, x = m_2 := ⟨_, rfl⟩
    have f1 : ∀ c, c ≠ 175 → m1 c = mem c := fun c hc => by rw [hm1, e_3]; exact mset_nka hc
    have f17 : m1 175 7 = mem 175 7 := by rw [hm1, e_3]; exact mset_ne (by decide)
    have hK0 : (readRowM g 1 (mem 175 4) 19 0) = rowL 19 0 (g 2 0).toNat 0 (mset g 7 1 1) := by
      unfold readRowM
      rw [if_neg (by omega)]
    refine ok_aload_n F dX4_readRow_34 0 rfl ?_
    refine ok_getr F dX4_readRow_35 kF_X4_12 sh_175 rfl ?_
    refine ok_iload_n F dX4_readRow_38 1 rfl ?_
    refine ok_callv F [pI 1] dX4_readRow_39 kM_X6_rowOf kI_X6_rowOf kV_X6_rowOf kL_X4_125 (ci := 6) rfl sh_32 rfl (by decide) (Nat.le_of_ble_eq_true rfl) rfl (m_X6_rowOf_32_1 _ m_2) ?_
    rintro _ _ ⟨rfl, rfl⟩
    refine ok_astore_n (lv' := [(3, pR 35), (0, pR 175), (1, pI 1), (2, pI 0)]) F dX4_readRow_42 (by decide) rfl ?_
    refine ok_iconst F dX4_readRow_43 ?_
    refine ok_istore (lv' := [(4, pI 0), (3, pR 35), (0, pR 175), (1, pI 1), (2, pI 0)]) F dX4_readRow_44 (by decide) rfl ?_
    have hL_46 : ∀ (n_46 : Nat) (i : Int) (m : Mem), (∃ H : Mem, (readRowM g 1 (mem 175 4) 19 0) = rowL 19 0 (g 2 0 - i).toNat i.toNat H ∧ RH H m ∧ H 2 0 = g 2 0 ∧ (0 ≤ i ∧ i ≤ g 2 0) ∧ (∀ c, (c < 32 ∨ 42 < c) → c ≠ 175 → m c = mem c) ∧ m 175 7 = mem 175 7) → (g 2 0 - i).toNat = n_46 → Ok shp X 5 46 [(0, pR 175), (1, pI 1), (2, pI 0), (3, pR 35), (4, pI i)] [] m := by
      intro n_46
      induction n_46 using Nat.strongRecOn with
      | _ n_46 ih_46 =>
        intro i m hI_46 hn_46
        obtain ⟨H, hK, hHG, hH0, hib, hF, hF7⟩ := hI_46
        have hm320 : m 32 0 = H 2 0 := hHG.2.2.1.1
        refine ok_iload F dX4_readRow_46 4 rfl ?_
        refine ok_aload_n F dX4_readRow_48 0 rfl ?_
        refine ok_getr F dX4_readRow_49 kF_X4_12 sh_175 rfl ?_
        refine ok_getf (v := m 32 0) F dX4_readRow_52 kF_X4_102 sh_32 rfl rfl ?_
        refine ok_icmp_ge F 84 dX4_readRow_55 (by decide) (by omega) (by omega) (fun c_4 => ?_) (fun c_4 => ?_)
        · refine ok_iconst F dX4_readRow_84 ?_
          refine ok_zret F G dX4_readRow_85 (by first | rfl | exact zb_nar) ?_
          have hKH : (readRowM g 1 (mem 175 4) 19 0) = H := by
            rw [hK, show (g 2 0 - i).toNat = 0 by omega]
            rfl
          exact ⟨_, rfl, hF, Or.inl ⟨rfl, by rw [hKH]; exact hHG, by rw [hKH]; exact hH0, hF7⟩⟩
        · refine ok_aload_n F dX4_readRow_58 0 rfl ?_
          refine ok_iload_n F dX4_readRow_59 2 rfl ?_
          refine ok_bipush F dX4_readRow_60 rfl ?_
          refine ok_callv F [pI 0, pI 99] dX4_readRow_62 kM_X4_readBounded kI_X4_readBounded kV_X4_readBounded kL_X4_96 (ci := 4) rfl sh_175 rfl (by decide) (Nat.le_of_ble_eq_true rfl) rfl (m_X4_readBounded _ H 0 99 m (hHG.2.1) (hHG.1) (by omega) (by omega)) ?_
          rintro _ m_6 ⟨z_5, rfl, r_7⟩
          obtain ⟨u1, u2⟩ := id r_7
          obtain ⟨mQ, hmQ⟩ : ∃ x, x = m_6 := ⟨_, rfl⟩
          rw [← hmQ] at u1 u2
          have hz02 : z_5 = 1 ∨ z_5 = 0 := u2.elim (fun w => Or.inl w.1) (fun w => Or.inr w.1)
          refine ok_if_ne F 70 dX4_readRow_65 (by decide) (by omega) (fun c_8 => ?_) (fun c_8 => ?_)
          · obtain ⟨_, v1, v2, v3, v4, v5, v6, v7⟩ := u2.resolve_right (fun q => by have := q.1; omega)
            refine ok_aload_n F dX4_readRow_70 3 rfl ?_
            refine ok_iload F dX4_readRow_71 4 rfl ?_
            refine ok_aload_n F dX4_readRow_73 0 rfl ?_
            refine ok_getf (v := m_6 175 5) F dX4_readRow_74 kF_X4_81 sh_175 rfl rfl ?_
            refine ok_iast F dX4_readRow_77 sh_35 (by first | decide | assumption) (by omega) (by omega) (fun m_9 e_10 => ?_)
            have e2x : m_9 = mset mQ (34 + 1) i.toNat (mQ 175 5) := by rw [e_10, ← hmQ]
            have hnx : RH (mset (numM H 0 99) 2 (19 + i.toNat) (numR H 0 99).1) m_9 := row_step (V := mQ 175 5) (r := 1) (i := i.toNat) hHG (by decide) (by omega) (by omega) v1 v2 u1 v6 v3.symm (by rw [v3]; exact v4) (by omega) e2x
            refine ok_iinc (lv' := [(4, pI (i + 1)), (0, pR 175), (1, pI 1), (2, pI 0), (3, pR 35)]) F dX4_readRow_78 4 rfl (by decide) rfl ?_
            refine ok_goto F 46 dX4_readRow_81 (by decide) ?_
            refine ok_lvp [1, 2, 3, 4, 0] (lv' := [(0, pR 175), (1, pI 1), (2, pI 0), (3, pR 35), (4, pI (i + 1))]) rfl ?_
            refine ih_46 _ ?_ (i + 1) m_9 ?_ rfl
            · omega
            · refine ⟨_, ?_, hnx, ?_, by omega, fun c hc h5 => ?_, ?_⟩
              · rw [hK, show (g 2 0 - i).toNat = (g 2 0 - (i + 1)).toNat + 1 by omega, rowL_s, if_pos hHG.1, show (i + 1).toNat = i.toNat + 1 by omega]
              · rw [mset_ne (by omega), (numM_at H _ 99).1 2 (by decide)]; exact hH0
              · rw [e2x, mset_nka (by omega), u1 c h5]; exact hF c hc h5
              · rw [e2x, mset_nk (by decide), v7]; exact hF7
          · refine ok_iconst F dX4_readRow_68 ?_
            refine ok_zret F G dX4_readRow_69 (by first | rfl | exact zb_nar) ?_
            obtain ⟨_, v1, v2⟩ := u2.resolve_left (fun q => by have := q.1; omega)
            have hK9 : (readRowM g 1 (mem 175 4) 19 0) 0 9 = numM H 0 99 0 9 := by
              rw [hK, show (g 2 0 - i).toNat = (g 2 0 - (i + 1)).toNat + 1 by omega, rowL_s, if_pos hHG.1]
              have q : mset (numM H 0 99) 2 (19 + i.toNat) (numR H 0 99).1 0 9 = numM H 0 99 0 9 := mset_nk (by decide)
              rw [rowL_bad _ _ _ _ (by rw [q]; exact v1), q]
            refine ⟨_, rfl, fun c hc h5 => by rw [← hmQ, u1 c h5]; exact hF c hc h5, Or.inr ⟨rfl, by rw [hK9]; exact v1, by rw [hK9, ← hmQ]; exact v2⟩⟩
    refine ok_lvp [2, 3, 4, 1, 0] (lv' := [(0, pR 175), (1, pI 1), (2, pI 0), (3, pR 35), (4, pI 0)]) rfl ?_
    refine hL_46 _ 0 m_2 ?_ rfl
    rw [← hm1]
    refine ⟨mset g 7 1 1, by rw [hK0, Int.sub_zero]; rfl, by rw [hm1]; exact hst, by rw [mset_nk (by decide)], by omega, fun c _ hc => f1 c hc, f17⟩
  · refine ok_aload_n F dX4_readRow_12 0 rfl ?_
    refine ok_aload_n F dX4_readRow_13 0 rfl ?_
    refine ok_getf (v := mem 175 4) F dX4_readRow_14 kF_X4_63 sh_175 rfl rfl ?_
    refine ok_iconst F dX4_readRow_17 ?_
    refine ok_callv F [pI (mem 175 4), pI 3] dX4_readRow_18 kM_X4_wrong kI_X4_wrong kV_X4_wrong kL_X4_59 (ci := 4) rfl sh_175 rfl (by decide) (Nat.le_of_ble_eq_true rfl) rfl (m_X4_wrong _ (mem 175 4) 3 mem) ?_
    rintro _ m_11 ⟨rfl, e_12⟩
    have eW := e_12
    refine ok_zret F G dX4_readRow_21 (rfl) ?_
    have hK9 : (readRowM g 1 (mem 175 4) 19 0) 0 9 = 8 * mem 175 4 + 3 := by
      unfold readRowM
      rw [if_pos (by omega)]
      have q : mset (flM g 3 (mem 175 4)) 7 1 1 0 9 = 8 * mem 175 4 + 3 := by
        rw [mset_nk (by decide)]
        unfold flM
        rw [if_pos a1, mset_eq]
      rw [rowL_bad _ _ _ _ (by rw [q]; omega), q]
    refine ⟨_, rfl, fun c _ hc => by rw [eW, mset_nka hc], Or.inr ⟨rfl, by rw [hK9]; omega, by rw [hK9, eW, mset_eq]⟩⟩
set_option maxHeartbeats 4000000 in
set_option maxRecDepth 100000 in
theorem m_X4_readRow_2 (l : Launch) (g : Mem) (mem : Mem) (hH : RH g mem) (hp : 0 ≤ mem 175 4 ∧ mem 175 4 ≤ 400) : Ret shp l yX4_readRow cX4_readRow 5 (some .boolean) 3 [pR 175, pI 2, pI 0] mem (fun rv mv => ∃ z, rv = some (pI z) ∧ (∀ c, (c < 32 ∨ 42 < c) → c ≠ 175 → mv c = mem c) ∧ (z = 1 ∧ RH (readRowM g 2 (mem 175 4) 27 0) mv ∧ (readRowM g 2 (mem 175 4) 27 0) 2 0 = g 2 0 ∧ mv 175 7 = mem 175 7 ∨ z = 0 ∧ (readRowM g 2 (mem 175 4) 27 0) 0 9 ≠ -1 ∧ mv 175 7 = (readRowM g 2 (mem 175 4) 27 0) 0 9)) := by
  refine ret_of (by decide +kernel) (Nat.le_of_ble_eq_true rfl) (fun X hX F G => ?_)
  show Ok shp X 5 0 [(0, pR 175), (1, pI 2), (2, pI 0)] [] mem
  obtain ⟨a1, a2, a3, a4, a5, a6, a7, a8, a9⟩ := id hH
  have hbit : iand (ishr (mem 175 6) 2) 1 = g 7 2 := a7 2 (by decide)
  have h70 := a8 2
  have hN := a4.1
  refine ok_aload_n F dX4_readRow_0 0 rfl ?_
  refine ok_getf (v := mem 175 6) F dX4_readRow_1 kF_X4_35 sh_175 rfl rfl ?_
  refine ok_iload_n F dX4_readRow_4 1 rfl ?_
  refine ok_ishr F dX4_readRow_5 ?_
  refine ok_iconst F dX4_readRow_6 ?_
  refine ok_iand F dX4_readRow_7 ?_
  refine ok_iconst F dX4_readRow_8 ?_
  refine ok_icmp_ne F 22 dX4_readRow_9 (by decide) (by omega) (by omega) (fun c_1 => ?_) (fun c_1 => ?_)
  · refine ok_aload_n F dX4_readRow_22 0 rfl ?_
    refine ok_dup F dX4_readRow_23 rfl ?_
    refine ok_getf (v := mem 175 6) F dX4_readRow_24 kF_X4_35 sh_175 rfl rfl ?_
    refine ok_iconst F dX4_readRow_27 ?_
    refine ok_iload_n F dX4_readRow_28 1 rfl ?_
    refine ok_ishl F dX4_readRow_29 ?_
    refine ok_ior F dX4_readRow_30 ?_
    refine ok_putf F dX4_readRow_31 kF_X4_35 sh_175 rfl rfl rfl (fun m_2 e_3 => ?_)
    have h7z : g 7 2 = 0 := by omega
    have hst : RH (mset g 7 2 1) m_2 := row_start hH (by decide) h7z e_3
    obtain ⟨m1, hm1⟩ : ∃ x, x = m_2 := ⟨_, rfl⟩
    have f1 : ∀ c, c ≠ 175 → m1 c = mem c := fun c hc => by rw [hm1, e_3]; exact mset_nka hc
    have f17 : m1 175 7 = mem 175 7 := by rw [hm1, e_3]; exact mset_ne (by decide)
    have hK0 : (readRowM g 2 (mem 175 4) 27 0) = rowL 27 0 (g 2 0).toNat 0 (mset g 7 2 1) := by
      unfold readRowM
      rw [if_neg (by omega)]
    refine ok_aload_n F dX4_readRow_34 0 rfl ?_
    refine ok_getr F dX4_readRow_35 kF_X4_12 sh_175 rfl ?_
    refine ok_iload_n F dX4_readRow_38 1 rfl ?_
    refine ok_callv F [pI 2] dX4_readRow_39 kM_X6_rowOf kI_X6_rowOf kV_X6_rowOf kL_X4_125 (ci := 6) rfl sh_32 rfl (by decide) (Nat.le_of_ble_eq_true rfl) rfl (m_X6_rowOf_32_2 _ m_2) ?_
    rintro _ _ ⟨rfl, rfl⟩
    refine ok_astore_n (lv' := [(3, pR 36), (0, pR 175), (1, pI 2), (2, pI 0)]) F dX4_readRow_42 (by decide) rfl ?_
    refine ok_iconst F dX4_readRow_43 ?_
    refine ok_istore (lv' := [(4, pI 0), (3, pR 36), (0, pR 175), (1, pI 2), (2, pI 0)]) F dX4_readRow_44 (by decide) rfl ?_
    have hL_46 : ∀ (n_46 : Nat) (i : Int) (m : Mem), (∃ H : Mem, (readRowM g 2 (mem 175 4) 27 0) = rowL 27 0 (g 2 0 - i).toNat i.toNat H ∧ RH H m ∧ H 2 0 = g 2 0 ∧ (0 ≤ i ∧ i ≤ g 2 0) ∧ (∀ c, (c < 32 ∨ 42 < c) → c ≠ 175 → m c = mem c) ∧ m 175 7 = mem 175 7) → (g 2 0 - i).toNat = n_46 → Ok shp X 5 46 [(0, pR 175), (1, pI 2), (2, pI 0), (3, pR 36), (4, pI i)] [] m := by
      intro n_46
      induction n_46 using Nat.strongRecOn with
      | _ n_46 ih_46 =>
        intro i m hI_46 hn_46
        obtain ⟨H, hK, hHG, hH0, hib, hF, hF7⟩ := hI_46
        have hm320 : m 32 0 = H 2 0 := hHG.2.2.1.1
        refine ok_iload F dX4_readRow_46 4 rfl ?_
        refine ok_aload_n F dX4_readRow_48 0 rfl ?_
        refine ok_getr F dX4_readRow_49 kF_X4_12 sh_175 rfl ?_
        refine ok_getf (v := m 32 0) F dX4_readRow_52 kF_X4_102 sh_32 rfl rfl ?_
        refine ok_icmp_ge F 84 dX4_readRow_55 (by decide) (by omega) (by omega) (fun c_4 => ?_) (fun c_4 => ?_)
        · refine ok_iconst F dX4_readRow_84 ?_
          refine ok_zret F G dX4_readRow_85 (by first | rfl | exact zb_nar) ?_
          have hKH : (readRowM g 2 (mem 175 4) 27 0) = H := by
            rw [hK, show (g 2 0 - i).toNat = 0 by omega]
            rfl
          exact ⟨_, rfl, hF, Or.inl ⟨rfl, by rw [hKH]; exact hHG, by rw [hKH]; exact hH0, hF7⟩⟩
        · refine ok_aload_n F dX4_readRow_58 0 rfl ?_
          refine ok_iload_n F dX4_readRow_59 2 rfl ?_
          refine ok_bipush F dX4_readRow_60 rfl ?_
          refine ok_callv F [pI 0, pI 99] dX4_readRow_62 kM_X4_readBounded kI_X4_readBounded kV_X4_readBounded kL_X4_96 (ci := 4) rfl sh_175 rfl (by decide) (Nat.le_of_ble_eq_true rfl) rfl (m_X4_readBounded _ H 0 99 m (hHG.2.1) (hHG.1) (by omega) (by omega)) ?_
          rintro _ m_6 ⟨z_5, rfl, r_7⟩
          obtain ⟨u1, u2⟩ := id r_7
          obtain ⟨mQ, hmQ⟩ : ∃ x, x = m_6 := ⟨_, rfl⟩
          rw [← hmQ] at u1 u2
          have hz02 : z_5 = 1 ∨ z_5 = 0 := u2.elim (fun w => Or.inl w.1) (fun w => Or.inr w.1)
          refine ok_if_ne F 70 dX4_readRow_65 (by decide) (by omega) (fun c_8 => ?_) (fun c_8 => ?_)
          · obtain ⟨_, v1, v2, v3, v4, v5, v6, v7⟩ := u2.resolve_right (fun q => by have := q.1; omega)
            refine ok_aload_n F dX4_readRow_70 3 rfl ?_
            refine ok_iload F dX4_readRow_71 4 rfl ?_
            refine ok_aload_n F dX4_readRow_73 0 rfl ?_
            refine ok_getf (v := m_6 175 5) F dX4_readRow_74 kF_X4_81 sh_175 rfl rfl ?_
            refine ok_iast F dX4_readRow_77 sh_36 (by first | decide | assumption) (by omega) (by omega) (fun m_9 e_10 => ?_)
            have e2x : m_9 = mset mQ (34 + 2) i.toNat (mQ 175 5) := by rw [e_10, ← hmQ]
            have hnx : RH (mset (numM H 0 99) 2 (27 + i.toNat) (numR H 0 99).1) m_9 := row_step (V := mQ 175 5) (r := 2) (i := i.toNat) hHG (by decide) (by omega) (by omega) v1 v2 u1 v6 v3.symm (by rw [v3]; exact v4) (by omega) e2x
            refine ok_iinc (lv' := [(4, pI (i + 1)), (0, pR 175), (1, pI 2), (2, pI 0), (3, pR 36)]) F dX4_readRow_78 4 rfl (by decide) rfl ?_
            refine ok_goto F 46 dX4_readRow_81 (by decide) ?_
            refine ok_lvp [1, 2, 3, 4, 0] (lv' := [(0, pR 175), (1, pI 2), (2, pI 0), (3, pR 36), (4, pI (i + 1))]) rfl ?_
            refine ih_46 _ ?_ (i + 1) m_9 ?_ rfl
            · omega
            · refine ⟨_, ?_, hnx, ?_, by omega, fun c hc h5 => ?_, ?_⟩
              · rw [hK, show (g 2 0 - i).toNat = (g 2 0 - (i + 1)).toNat + 1 by omega, rowL_s, if_pos hHG.1, show (i + 1).toNat = i.toNat + 1 by omega]
              · rw [mset_ne (by omega), (numM_at H _ 99).1 2 (by decide)]; exact hH0
              · rw [e2x, mset_nka (by omega), u1 c h5]; exact hF c hc h5
              · rw [e2x, mset_nk (by decide), v7]; exact hF7
          · refine ok_iconst F dX4_readRow_68 ?_
            refine ok_zret F G dX4_readRow_69 (by first | rfl | exact zb_nar) ?_
            obtain ⟨_, v1, v2⟩ := u2.resolve_left (fun q => by have := q.1; omega)
            have hK9 : (readRowM g 2 (mem 175 4) 27 0) 0 9 = numM H 0 99 0 9 := by
              rw [hK, show (g 2 0 - i).toNat = (g 2 0 - (i + 1)).toNat + 1 by omega, rowL_s, if_pos hHG.1]
              have q : mset (numM H 0 99) 2 (27 + i.toNat) (numR H 0 99).1 0 9 = numM H 0 99 0 9 := mset_nk (by decide)
              rw [rowL_bad _ _ _ _ (by rw [q]; exact v1), q]
            refine ⟨_, rfl, fun c hc h5 => by rw [← hmQ, u1 c h5]; exact hF c hc h5, Or.inr ⟨rfl, by rw [hK9]; exact v1, by rw [hK9, ← hmQ]; exact v2⟩⟩
    refine ok_lvp [2, 3, 4, 1, 0] (lv' := [(0, pR 175), (1, pI 2), (2, pI 0), (3, pR 36), (4, pI 0)]) rfl ?_
    refine hL_46 _ 0 m_2 ?_ rfl
    rw [← hm1]
    refine ⟨mset g 7 2 1, by rw [hK0, Int.sub_zero]; rfl, by rw [hm1]; exact hst, by rw [mset_nk (by decide)], by omega, fun c _ hc => f1 c hc, f17⟩
  · refine ok_aload_n F dX4_readRow_12 0 rfl ?_
    refine ok_aload_n F dX4_readRow_13 0 rfl ?_
    refine ok_getf (v := mem 175 4) F dX4_readRow_14 kF_X4_63 sh_175 rfl rfl ?_
    refine ok_iconst F dX4_readRow_17 ?_
    refine ok_callv F [pI (mem 175 4), pI 3] dX4_readRow_18 kM_X4_wrong kI_X4_wrong kV_X4_wrong kL_X4_59 (ci := 4) rfl sh_175 rfl (by decide) (Nat.le_of_ble_eq_true rfl) rfl (m_X4_wrong _ (mem 175 4) 3 mem) ?_
    rintro _ m_11 ⟨rfl, e_12⟩
    have eW := e_12
    refine ok_zret F G dX4_readRow_21 (rfl) ?_
    have hK9 : (readRowM g 2 (mem 175 4) 27 0) 0 9 = 8 * mem 175 4 + 3 := by
      unfold readRowM
      rw [if_pos (by omega)]
      have q : mset (flM g 3 (mem 175 4)) 7 2 1 0 9 = 8 * mem 175 4 + 3 := by
        rw [mset_nk (by decide)]
        unfold flM
        rw [if_pos a1, mset_eq]
      rw [rowL_bad _ _ _ _ (by rw [q]; omega), q]
    refine ⟨_, rfl, fun c _ hc => by rw [eW, mset_nka hc], Or.inr ⟨rfl, by rw [hK9]; omega, by rw [hK9, eW, mset_eq]⟩⟩
set_option maxHeartbeats 4000000 in
set_option maxRecDepth 100000 in
theorem m_X4_readRow_3 (l : Launch) (g : Mem) (mem : Mem) (hH : RH g mem) (hp : 0 ≤ mem 175 4 ∧ mem 175 4 ≤ 400) : Ret shp l yX4_readRow cX4_readRow 5 (some .boolean) 3 [pR 175, pI 3, pI 1] mem (fun rv mv => ∃ z, rv = some (pI z) ∧ (∀ c, (c < 32 ∨ 42 < c) → c ≠ 175 → mv c = mem c) ∧ (z = 1 ∧ RH (readRowM g 3 (mem 175 4) 35 1) mv ∧ (readRowM g 3 (mem 175 4) 35 1) 2 0 = g 2 0 ∧ mv 175 7 = mem 175 7 ∨ z = 0 ∧ (readRowM g 3 (mem 175 4) 35 1) 0 9 ≠ -1 ∧ mv 175 7 = (readRowM g 3 (mem 175 4) 35 1) 0 9)) := by
  refine ret_of (by decide +kernel) (Nat.le_of_ble_eq_true rfl) (fun X hX F G => ?_)
  show Ok shp X 5 0 [(0, pR 175), (1, pI 3), (2, pI 1)] [] mem
  obtain ⟨a1, a2, a3, a4, a5, a6, a7, a8, a9⟩ := id hH
  have hbit : iand (ishr (mem 175 6) 3) 1 = g 7 3 := a7 3 (by decide)
  have h70 := a8 3
  have hN := a4.1
  refine ok_aload_n F dX4_readRow_0 0 rfl ?_
  refine ok_getf (v := mem 175 6) F dX4_readRow_1 kF_X4_35 sh_175 rfl rfl ?_
  refine ok_iload_n F dX4_readRow_4 1 rfl ?_
  refine ok_ishr F dX4_readRow_5 ?_
  refine ok_iconst F dX4_readRow_6 ?_
  refine ok_iand F dX4_readRow_7 ?_
  refine ok_iconst F dX4_readRow_8 ?_
  refine ok_icmp_ne F 22 dX4_readRow_9 (by decide) (by omega) (by omega) (fun c_1 => ?_) (fun c_1 => ?_)
  · refine ok_aload_n F dX4_readRow_22 0 rfl ?_
    refine ok_dup F dX4_readRow_23 rfl ?_
    refine ok_getf (v := mem 175 6) F dX4_readRow_24 kF_X4_35 sh_175 rfl rfl ?_
    refine ok_iconst F dX4_readRow_27 ?_
    refine ok_iload_n F dX4_readRow_28 1 rfl ?_
    refine ok_ishl F dX4_readRow_29 ?_
    refine ok_ior F dX4_readRow_30 ?_
    refine ok_putf F dX4_readRow_31 kF_X4_35 sh_175 rfl rfl rfl (fun m_2 e_3 => ?_)
    have h7z : g 7 3 = 0 := by omega
    have hst : RH (mset g 7 3 1) m_2 := row_start hH (by decide) h7z e_3
    obtain ⟨m1, hm1⟩ : ∃ x, x = m_2 := ⟨_, rfl⟩
    have f1 : ∀ c, c ≠ 175 → m1 c = mem c := fun c hc => by rw [hm1, e_3]; exact mset_nka hc
    have f17 : m1 175 7 = mem 175 7 := by rw [hm1, e_3]; exact mset_ne (by decide)
    have hK0 : (readRowM g 3 (mem 175 4) 35 1) = rowL 35 1 (g 2 0).toNat 0 (mset g 7 3 1) := by
      unfold readRowM
      rw [if_neg (by omega)]
    refine ok_aload_n F dX4_readRow_34 0 rfl ?_
    refine ok_getr F dX4_readRow_35 kF_X4_12 sh_175 rfl ?_
    refine ok_iload_n F dX4_readRow_38 1 rfl ?_
    refine ok_callv F [pI 3] dX4_readRow_39 kM_X6_rowOf kI_X6_rowOf kV_X6_rowOf kL_X4_125 (ci := 6) rfl sh_32 rfl (by decide) (Nat.le_of_ble_eq_true rfl) rfl (m_X6_rowOf_32_3 _ m_2) ?_
    rintro _ _ ⟨rfl, rfl⟩
    refine ok_astore_n (lv' := [(3, pR 37), (0, pR 175), (1, pI 3), (2, pI 1)]) F dX4_readRow_42 (by decide) rfl ?_
    refine ok_iconst F dX4_readRow_43 ?_
    refine ok_istore (lv' := [(4, pI 0), (3, pR 37), (0, pR 175), (1, pI 3), (2, pI 1)]) F dX4_readRow_44 (by decide) rfl ?_
    have hL_46 : ∀ (n_46 : Nat) (i : Int) (m : Mem), (∃ H : Mem, (readRowM g 3 (mem 175 4) 35 1) = rowL 35 1 (g 2 0 - i).toNat i.toNat H ∧ RH H m ∧ H 2 0 = g 2 0 ∧ (0 ≤ i ∧ i ≤ g 2 0) ∧ (∀ c, (c < 32 ∨ 42 < c) → c ≠ 175 → m c = mem c) ∧ m 175 7 = mem 175 7) → (g 2 0 - i).toNat = n_46 → Ok shp X 5 46 [(0, pR 175), (1, pI 3), (2, pI 1), (3, pR 37), (4, pI i)] [] m := by
      intro n_46
      induction n_46 using Nat.strongRecOn with
      | _ n_46 ih_46 =>
        intro i m hI_46 hn_46
        obtain ⟨H, hK, hHG, hH0, hib, hF, hF7⟩ := hI_46
        have hm320 : m 32 0 = H 2 0 := hHG.2.2.1.1
        refine ok_iload F dX4_readRow_46 4 rfl ?_
        refine ok_aload_n F dX4_readRow_48 0 rfl ?_
        refine ok_getr F dX4_readRow_49 kF_X4_12 sh_175 rfl ?_
        refine ok_getf (v := m 32 0) F dX4_readRow_52 kF_X4_102 sh_32 rfl rfl ?_
        refine ok_icmp_ge F 84 dX4_readRow_55 (by decide) (by omega) (by omega) (fun c_4 => ?_) (fun c_4 => ?_)
        · refine ok_iconst F dX4_readRow_84 ?_
          refine ok_zret F G dX4_readRow_85 (by first | rfl | exact zb_nar) ?_
          have hKH : (readRowM g 3 (mem 175 4) 35 1) = H := by
            rw [hK, show (g 2 0 - i).toNat = 0 by omega]
            rfl
          exact ⟨_, rfl, hF, Or.inl ⟨rfl, by rw [hKH]; exact hHG, by rw [hKH]; exact hH0, hF7⟩⟩
        · refine ok_aload_n F dX4_readRow_58 0 rfl ?_
          refine ok_iload_n F dX4_readRow_59 2 rfl ?_
          refine ok_bipush F dX4_readRow_60 rfl ?_
          refine ok_callv F [pI 1, pI 99] dX4_readRow_62 kM_X4_readBounded kI_X4_readBounded kV_X4_readBounded kL_X4_96 (ci := 4) rfl sh_175 rfl (by decide) (Nat.le_of_ble_eq_true rfl) rfl (m_X4_readBounded _ H 1 99 m (hHG.2.1) (hHG.1) (by omega) (by omega)) ?_
          rintro _ m_6 ⟨z_5, rfl, r_7⟩
          obtain ⟨u1, u2⟩ := id r_7
          obtain ⟨mQ, hmQ⟩ : ∃ x, x = m_6 := ⟨_, rfl⟩
          rw [← hmQ] at u1 u2
          have hz02 : z_5 = 1 ∨ z_5 = 0 := u2.elim (fun w => Or.inl w.1) (fun w => Or.inr w.1)
          refine ok_if_ne F 70 dX4_readRow_65 (by decide) (by omega) (fun c_8 => ?_) (fun c_8 => ?_)
          · obtain ⟨_, v1, v2, v3, v4, v5, v6, v7⟩ := u2.resolve_right (fun q => by have := q.1; omega)
            refine ok_aload_n F dX4_readRow_70 3 rfl ?_
            refine ok_iload F dX4_readRow_71 4 rfl ?_
            refine ok_aload_n F dX4_readRow_73 0 rfl ?_
            refine ok_getf (v := m_6 175 5) F dX4_readRow_74 kF_X4_81 sh_175 rfl rfl ?_
            refine ok_iast F dX4_readRow_77 sh_37 (by first | decide | assumption) (by omega) (by omega) (fun m_9 e_10 => ?_)
            have e2x : m_9 = mset mQ (34 + 3) i.toNat (mQ 175 5) := by rw [e_10, ← hmQ]
            have hnx : RH (mset (numM H 1 99) 2 (35 + i.toNat) (numR H 1 99).1) m_9 := row_step (V := mQ 175 5) (r := 3) (i := i.toNat) hHG (by decide) (by omega) (by omega) v1 v2 u1 v6 v3.symm (by rw [v3]; exact v4) (by omega) e2x
            refine ok_iinc (lv' := [(4, pI (i + 1)), (0, pR 175), (1, pI 3), (2, pI 1), (3, pR 37)]) F dX4_readRow_78 4 rfl (by decide) rfl ?_
            refine ok_goto F 46 dX4_readRow_81 (by decide) ?_
            refine ok_lvp [1, 2, 3, 4, 0] (lv' := [(0, pR 175), (1, pI 3), (2, pI 1), (3, pR 37), (4, pI (i + 1))]) rfl ?_
            refine ih_46 _ ?_ (i + 1) m_9 ?_ rfl
            · omega
            · refine ⟨_, ?_, hnx, ?_, by omega, fun c hc h5 => ?_, ?_⟩
              · rw [hK, show (g 2 0 - i).toNat = (g 2 0 - (i + 1)).toNat + 1 by omega, rowL_s, if_pos hHG.1, show (i + 1).toNat = i.toNat + 1 by omega]
              · rw [mset_ne (by omega), (numM_at H _ 99).1 2 (by decide)]; exact hH0
              · rw [e2x, mset_nka (by omega), u1 c h5]; exact hF c hc h5
              · rw [e2x, mset_nk (by decide), v7]; exact hF7
          · refine ok_iconst F dX4_readRow_68 ?_
            refine ok_zret F G dX4_readRow_69 (by first | rfl | exact zb_nar) ?_
            obtain ⟨_, v1, v2⟩ := u2.resolve_left (fun q => by have := q.1; omega)
            have hK9 : (readRowM g 3 (mem 175 4) 35 1) 0 9 = numM H 1 99 0 9 := by
              rw [hK, show (g 2 0 - i).toNat = (g 2 0 - (i + 1)).toNat + 1 by omega, rowL_s, if_pos hHG.1]
              have q : mset (numM H 1 99) 2 (35 + i.toNat) (numR H 1 99).1 0 9 = numM H 1 99 0 9 := mset_nk (by decide)
              rw [rowL_bad _ _ _ _ (by rw [q]; exact v1), q]
            refine ⟨_, rfl, fun c hc h5 => by rw [← hmQ, u1 c h5]; exact hF c hc h5, Or.inr ⟨rfl, by rw [hK9]; exact v1, by rw [hK9, ← hmQ]; exact v2⟩⟩
    refine ok_lvp [2, 3, 4, 1, 0] (lv' := [(0, pR 175), (1, pI 3), (2, pI 1), (3, pR 37), (4, pI 0)]) rfl ?_
    refine hL_46 _ 0 m_2 ?_ rfl
    rw [← hm1]
    refine ⟨mset g 7 3 1, by rw [hK0, Int.sub_zero]; rfl, by rw [hm1]; exact hst, by rw [mset_nk (by decide)], by omega, fun c _ hc => f1 c hc, f17⟩
  · refine ok_aload_n F dX4_readRow_12 0 rfl ?_
    refine ok_aload_n F dX4_readRow_13 0 rfl ?_
    refine ok_getf (v := mem 175 4) F dX4_readRow_14 kF_X4_63 sh_175 rfl rfl ?_
    refine ok_iconst F dX4_readRow_17 ?_
    refine ok_callv F [pI (mem 175 4), pI 3] dX4_readRow_18 kM_X4_wrong kI_X4_wrong kV_X4_wrong kL_X4_59 (ci := 4) rfl sh_175 rfl (by decide) (Nat.le_of_ble_eq_true rfl) rfl (m_X4_wrong _ (mem 175 4) 3 mem) ?_
    rintro _ m_11 ⟨rfl, e_12⟩
    have eW := e_12
    refine ok_zret F G dX4_readRow_21 (rfl) ?_
    have hK9 : (readRowM g 3 (mem 175 4) 35 1) 0 9 = 8 * mem 175 4 + 3 := by
      unfold readRowM
      rw [if_pos (by omega)]
      have q : mset (flM g 3 (mem 175 4)) 7 3 1 0 9 = 8 * mem 175 4 + 3 := by
        rw [mset_nk (by decide)]
        unfold flM
        rw [if_pos a1, mset_eq]
      rw [rowL_bad _ _ _ _ (by rw [q]; omega), q]
    refine ⟨_, rfl, fun c _ hc => by rw [eW, mset_nka hc], Or.inr ⟨rfl, by rw [hK9]; omega, by rw [hK9, eW, mset_eq]⟩⟩
theorem dX4_readDay_0 : decode cX4_readDay 0 = .ok (.aload_n 0, 1) := by decide +kernel
theorem dX4_readDay_1 : decode cX4_readDay 1 = .ok (.getfield 12, 3) := by decide +kernel
theorem dX4_readDay_4 : decode cX4_readDay 4 = .ok (.getfield 129, 3) := by decide +kernel
theorem dX4_readDay_7 : decode cX4_readDay 7 = .ok (.iconst 5, 1) := by decide +kernel
theorem dX4_readDay_8 : decode cX4_readDay 8 = .ok (.if_icmp .lt 13, 3) := by decide +kernel
theorem dX4_readDay_11 : decode cX4_readDay 11 = .ok (.aload_n 0, 1) := by decide +kernel
theorem dX4_readDay_12 : decode cX4_readDay 12 = .ok (.aload_n 0, 1) := by decide +kernel
theorem dX4_readDay_13 : decode cX4_readDay 13 = .ok (.getfield 63, 3) := by decide +kernel
theorem dX4_readDay_16 : decode cX4_readDay 16 = .ok (.iconst 3, 1) := by decide +kernel
theorem dX4_readDay_17 : decode cX4_readDay 17 = .ok (.invokevirtual 59, 3) := by decide +kernel
theorem dX4_readDay_20 : decode cX4_readDay 20 = .ok (.ireturn, 1) := by decide +kernel
theorem dX4_readDay_21 : decode cX4_readDay 21 = .ok (.aload_n 0, 1) := by decide +kernel
theorem dX4_readDay_22 : decode cX4_readDay 22 = .ok (.getfield 12, 3) := by decide +kernel
theorem dX4_readDay_25 : decode cX4_readDay 25 = .ok (.invokevirtual 132, 3) := by decide +kernel
theorem dX4_readDay_28 : decode cX4_readDay 28 = .ok (.iconst 1, 1) := by decide +kernel
theorem dX4_readDay_29 : decode cX4_readDay 29 = .ok (.ireturn, 1) := by decide +kernel
set_option maxHeartbeats 4000000 in
set_option maxRecDepth 100000 in
theorem m_X4_readDay (l : Launch) (g : Mem) (mem : Mem) (hH : RH g mem) (hp : 0 ≤ mem 175 4 ∧ mem 175 4 ≤ 400) (hk1 : 1 ≤ g 2 0) : Ret shp l yX4_readDay cX4_readDay 1 (some .boolean) 3 [pR 175] mem (fun rv mv => ∃ z, rv = some (pI z) ∧ (∀ c, (c < 32 ∨ 42 < c) → c ≠ 175 → mv c = mem c) ∧ (z = 1 ∧ RH (dayM g (mem 175 4)) mv ∧ (dayM g (mem 175 4)) 2 0 = g 2 0 ∧ mv 175 7 = mem 175 7 ∨ z = 0 ∧ (dayM g (mem 175 4)) 0 9 ≠ -1 ∧ mv 175 7 = (dayM g (mem 175 4)) 0 9)) := by
  refine ret_of (by decide +kernel) (Nat.le_of_ble_eq_true rfl) (fun X hX F G => ?_)
  show Ok shp X 1 0 [(0, pR 175)] [] mem
  obtain ⟨a1, a2, a3, a4, a5, a6, a7, a8, a9⟩ := id hH
  have h321 : mem 32 1 = g 2 1 := a3.2.1
  have gb1 := a4.2.1
  refine ok_aload_n F dX4_readDay_0 0 rfl ?_
  refine ok_getr F dX4_readDay_1 kF_X4_12 sh_175 rfl ?_
  refine ok_getf (v := mem 32 1) F dX4_readDay_4 kF_X4_129 sh_32 rfl rfl ?_
  refine ok_iconst F dX4_readDay_7 ?_
  refine ok_icmp_lt F 21 dX4_readDay_8 (by decide) (by omega) (by omega) (fun c_1 => ?_) (fun c_1 => ?_)
  · refine ok_aload_n F dX4_readDay_21 0 rfl ?_
    refine ok_getr F dX4_readDay_22 kF_X4_12 sh_175 rfl ?_
    refine ok_callv F [] dX4_readDay_25 kM_X6_addDay kI_X6_addDay kV_X6_addDay kL_X4_132 (ci := 6) rfl sh_32 rfl (by decide) (Nat.le_of_ble_eq_true rfl) rfl (m_X6_addDay_32 _ mem (by omega)) ?_
    rintro _ m_2 ⟨rfl, e_3⟩
    have eA := e_3
    refine ok_iconst F dX4_readDay_28 ?_
    refine ok_zret F G dX4_readDay_29 (by first | rfl | exact zb_nar) ?_
    have hK : (dayM g (mem 175 4)) = mset g 2 1 (g 2 1 + 1) := by
      unfold dayM
      rw [if_neg (by omega)]
    have hK2 : (dayM g (mem 175 4)) 2 = bump (g 2) := by
      rw [hK]
      funext j
      unfold bump
      by_cases z : j = 1
      · rw [z, mset_eq, if_pos rfl]
      · rw [mset_ne (fun q => z q.2), if_neg z]
    have hKc : ∀ a, a ≠ 2 → (dayM g (mem 175 4)) a = g a := fun a ha => by rw [hK]; exact mset_nka ha
    have o : ∀ c, c ≠ 32 → c ≠ 40 → m_2 c = mem c := fun c c1 c2 => by rw [eA, mset_nka c1, mset_nka c2]
    have b0 : bump (g 2) 0 = g 2 0 := bump_ne _ (by decide)
    have b2 : bump (g 2) 2 = g 2 2 := bump_ne _ (by decide)
    refine ⟨_, rfl, fun c hc _ => o c (by omega) (by omega), Or.inl ⟨rfl, ⟨by rw [hKc 0 (by decide)]; exact a1, a2.of (hKc 6 (by decide)) (by rw [hKc 0 (by decide)]) (a2.2.2.2.1.cell (hKc 0 (by decide))) (o 176 (by decide) (by decide)) (by rw [o 175 (by decide) (by decide)]) (by rw [o 175 (by decide) (by decide), hKc 0 (by decide)]; exact a2.2.2.1), by rw [hK2]; exact a3.day32 a4 (by omega) eA, by rw [hK2]; exact a4.dawn (by omega), fun j hj => ?_, by rw [o 175 (by decide) (by decide)]; exact a6, by rw [o 175 (by decide) (by decide), hKc 7 (by decide)]; exact a7, by rw [hKc 7 (by decide)]; exact a8, fun _ => by rw [hK2, b0]; exact hk1⟩, by rw [hK2, b0], by rw [o 175 (by decide) (by decide)]⟩⟩
    rw [hK2] at hj ⊢
    rw [b2] at hj
    rw [bump_ne _ (by omega)]; exact a5 j hj
  · refine ok_aload_n F dX4_readDay_11 0 rfl ?_
    refine ok_aload_n F dX4_readDay_12 0 rfl ?_
    refine ok_getf (v := mem 175 4) F dX4_readDay_13 kF_X4_63 sh_175 rfl rfl ?_
    refine ok_iconst F dX4_readDay_16 ?_
    refine ok_callv F [pI (mem 175 4), pI 3] dX4_readDay_17 kM_X4_wrong kI_X4_wrong kV_X4_wrong kL_X4_59 (ci := 4) rfl sh_175 rfl (by decide) (Nat.le_of_ble_eq_true rfl) rfl (m_X4_wrong _ (mem 175 4) 3 mem) ?_
    rintro _ m_4 ⟨rfl, e_5⟩
    have eW := e_5
    refine ok_zret F G dX4_readDay_20 (rfl) ?_
    have hK9 : (dayM g (mem 175 4)) 0 9 = 8 * mem 175 4 + 3 := by
      unfold dayM
      rw [mset_nk (by decide), if_pos (by omega)]
      unfold flM
      rw [if_pos a1, mset_eq]
    refine ⟨_, rfl, fun c _ hc => by rw [eW, mset_nka hc], Or.inr ⟨rfl, by rw [hK9]; omega, by rw [hK9, eW, mset_eq]⟩⟩
