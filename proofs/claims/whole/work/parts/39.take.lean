/-! the class: change taken -/
theorem PLN.le {pk pp : Nat → Int} {v : Nat → Nat} {n top a : Nat} (h : PLN pk pp v n top) (hv : ∀ i, i < n → 1 ≤ v i) (ha : a ≤ top) (hk : 0 ≤ pk a) : pp a ≤ a := by
  have r := h.rep hv a a ha (Nat.le_refl _) hk
  have s := sumC_le (r := plR pk v a a) hv
  omega
theorem PLN.ext {pk pp qk qp : Nat → Int} {v : Nat → Nat} {n x : Nat} (hx : 1 ≤ x) (h : PLN pk pp v n (x - 1)) (e : ∀ y, y ≠ x → qp y = pp y ∧ qk y = pk y) (o : OFF qk qp v n x) : PLN qk qp v n x := by
  have k := h.congr (qk := qk) (qp := qp) (w := v) (fun y hy => ⟨(e y (by omega)).2, (e y (by omega)).1⟩) (fun _ _ => rfl)
  refine ⟨k.1, k.2.1, fun a h1 h2 => ?_⟩
  by_cases g : a = x
  · subst g; exact o
  · exact k.2.2 a h1 (by omega)
/-- what is read from the table for change is the row that is taken -/
theorem rdZ_tak {v c r : Nat → Int} {T s : Int} {n : Nat} (hv : 0 ≤ v n) (hc : 0 ≤ c n) (hr : r n = 0) (hs : 0 ≤ s ∧ s ≤ T) (hf : fewT (fun i => (v i).toNat) (fun i => (c i).toNat) (n + 1) s.toNat < 1000000) : rdZ (tbC v c T) v c r n s (fewT (fun i => (v i).toNat) (fun i => (c i).toNat) (n + 1) s.toNat) = (takZ (fun i => (v i).toNat) (fun i => (c i).toNat) n s.toNat : Nat) := by
  obtain ⟨V, hV⟩ : ∃ V : Nat → Nat, V = fun i => (v i).toNat := ⟨_, rfl⟩
  obtain ⟨C, hC⟩ : ∃ C : Nat → Nat, C = fun i => (c i).toNat := ⟨_, rfl⟩
  have tb : ∀ x : Int, 0 ≤ x → x ≤ T → tbC v c T n x = fewT V C n x.toNat := fun x h1 h2 => by rw [hV, hC]; exact tbC_at ⟨h1, h2⟩
  have tb2 : ∀ x : Int, x < 0 → tbC v c T n x = 1000000 := fun x h1 => if_neg (by omega)
  rw [← hV, ← hC] at hf ⊢
  have eV : (V n : Int) = v n := by rw [hV]; exact Int.toNat_of_nonneg hv
  have eC : (C n : Int) = c n := by rw [hC]; exact Int.toNat_of_nonneg hc
  have key : ∀ z : Nat, tbC v c T n (s - (z : Int) * v n) = fewT V C (n + 1) s.toNat - ((z : Int).natAbs : Int) ↔ z * V n ≤ s.toNat ∧ fewT V C n (s.toNat - z * V n) + z = fewT V C (n + 1) s.toNat := fun z => by
    have ez : ((z * V n : Nat) : Int) = (z : Int) * v n := by rw [Int.natCast_mul, eV]
    obtain ⟨y, hy⟩ : ∃ y, y = z * V n := ⟨_, rfl⟩
    rw [← hy] at ez ⊢
    have hn := fewT_bd V C n (s.toNat - y)
    by_cases g : y ≤ s.toNat
    · rw [tb (s - (z : Int) * v n) (by omega) (by omega), show (s - (z : Int) * v n).toNat = s.toNat - y by omega]
      omega
    · rw [tb2 (s - (z : Int) * v n) (by omega)]
      omega
  obtain ⟨t1, t2, t3⟩ := takZ_ok hf
  have q := topZ_of (P := fun z => decide (tbC v c T n (s - z * v n) = fewT V C (n + 1) s.toNat - (z.natAbs : Int))) (n := (c n + r n).toNat) (z := c n) (w := (takZ V C n s.toNat : Nat)) (by omega) (by omega) (decide_eq_true ((key _).mpr ⟨t2, t3⟩))
  have q2 := topZ_rng (fun z => decide (tbC v c T n (s - z * v n) = fewT V C (n + 1) s.toNat - (z.natAbs : Int))) (c n + r n).toNat (c n)
  obtain ⟨z, hz⟩ : ∃ z, z = topZ (fun z => decide (tbC v c T n (s - z * v n) = fewT V C (n + 1) s.toNat - (z.natAbs : Int))) (c n + r n).toNat (c n) := ⟨_, rfl⟩
  rw [← hz] at q q2
  show topZ _ _ _ = _
  rw [← hz]
  have ezn : z = (z.toNat : Int) := by omega
  have q3 := of_decide_eq_true q.1
  rw [ezn] at q3
  have q4 := (key z.toNat).mp q3
  have q5 := lastZ_ex (P := fun z => decide (z * V n ≤ s.toNat ∧ fewT V C n (s.toNat - z * V n) + z = fewT V C (n + 1) s.toNat)) (n := C n) (z := z.toNat) (by omega) (decide_eq_true q4)
  have q6 : z.toNat ≤ takZ V C n s.toNat := q5.2
  omega
theorem rdR_tak {v c r : Nat → Int} {T : Int} : ∀ {n : Nat} {s : Int}, (∀ i, i < n → 0 ≤ v i ∧ 0 ≤ c i ∧ r i = 0) → 0 ≤ s ∧ s ≤ T → fewT (fun i => (v i).toNat) (fun i => (c i).toNat) n s.toNat < 1000000 → ∀ j, j < n → rdR (tbC v c T) v c r n s (fewT (fun i => (v i).toNat) (fun i => (c i).toNat) n s.toNat) j = (takR (fun i => (v i).toNat) (fun i => (c i).toNat) n s.toNat j : Nat)
  | 0, _, _, _, _, j, hj => by omega
  | n + 1, s, hb, hs, hf, j, hj => by
    obtain ⟨b1, b2, b3⟩ := hb n (by omega)
    have e := rdZ_tak b1 b2 b3 hs hf
    obtain ⟨t1, t2, t3⟩ := takZ_ok hf
    rw [rdR_s, e]
    show _ = (((if j = n then takZ (fun i => (v i).toNat) (fun i => (c i).toNat) n s.toNat else takR (fun i => (v i).toNat) (fun i => (c i).toNat) n (s.toNat - takZ (fun i => (v i).toNat) (fun i => (c i).toNat) n s.toNat * (fun i => (v i).toNat) n) j : Nat)) : Int)
    by_cases g : j = n
    · rw [if_pos g, if_pos g]
    · rw [if_neg g, if_neg g]
      obtain ⟨Z, hZ⟩ : ∃ Z, Z = takZ (fun i => (v i).toNat) (fun i => (c i).toNat) n s.toNat := ⟨_, rfl⟩
      rw [← hZ] at t2 t3 ⊢
      have ez : ((Z * (v n).toNat : Nat) : Int) = (Z : Int) * v n := by rw [Int.natCast_mul, Int.toNat_of_nonneg b1]
      obtain ⟨y, hy⟩ : ∃ y, y = Z * (v n).toNat := ⟨_, rfl⟩
      have e2 : (s - (Z : Int) * v n).toNat = s.toNat - y := by omega
      have t2' : y ≤ s.toNat := by rw [hy]; exact t2
      have t3' : fewT (fun i => (v i).toNat) (fun i => (c i).toNat) n (s.toNat - y) + Z = fewT (fun i => (v i).toNat) (fun i => (c i).toNat) (n + 1) s.toNat := by rw [hy]; exact t3
      have ih := rdR_tak (T := T) (r := r) (n := n) (s := s - (Z : Int) * v n) (fun i hi => hb i (by omega)) (by omega) (by rw [e2]; omega) j (by omega)
      rw [e2] at ih
      rw [show fewT (fun i => (v i).toNat) (fun i => (c i).toNat) (n + 1) s.toNat - ((Z : Int).natAbs : Int) = fewT (fun i => (v i).toNat) (fun i => (c i).toNat) n (s.toNat - y) by omega, ih]
      show _ = ((takR (fun i => (v i).toNat) (fun i => (c i).toNat) n (s.toNat - Z * (v n).toNat) j : Nat) : Int)
      rw [← hy]
theorem dX0_preparePlenty_0 : decode cX0_preparePlenty 0 = .ok (.aload_n 0, 1) := by decide +kernel
theorem dX0_preparePlenty_1 : decode cX0_preparePlenty 1 = .ok (.aload_n 1, 1) := by decide +kernel
theorem dX0_preparePlenty_2 : decode cX0_preparePlenty 2 = .ok (.invokevirtual 60, 3) := by decide +kernel
theorem dX0_preparePlenty_5 : decode cX0_preparePlenty 5 = .ok (.ifCond .ne 27, 3) := by decide +kernel
theorem dX0_preparePlenty_8 : decode cX0_preparePlenty 8 = .ok (.aload_n 0, 1) := by decide +kernel
theorem dX0_preparePlenty_9 : decode cX0_preparePlenty 9 = .ok (.aload_n 1, 1) := by decide +kernel
theorem dX0_preparePlenty_10 : decode cX0_preparePlenty 10 = .ok (.getfield 45, 3) := by decide +kernel
theorem dX0_preparePlenty_13 : decode cX0_preparePlenty 13 = .ok (.putfield 64, 3) := by decide +kernel
theorem dX0_preparePlenty_16 : decode cX0_preparePlenty 16 = .ok (.aload_n 0, 1) := by decide +kernel
theorem dX0_preparePlenty_17 : decode cX0_preparePlenty 17 = .ok (.iconst 0, 1) := by decide +kernel
theorem dX0_preparePlenty_18 : decode cX0_preparePlenty 18 = .ok (.putfield 67, 3) := by decide +kernel
theorem dX0_preparePlenty_21 : decode cX0_preparePlenty 21 = .ok (.aload_n 1, 1) := by decide +kernel
theorem dX0_preparePlenty_22 : decode cX0_preparePlenty 22 = .ok (.getfield 57, 3) := by decide +kernel
theorem dX0_preparePlenty_25 : decode cX0_preparePlenty 25 = .ok (.aload_n 0, 1) := by decide +kernel
theorem dX0_preparePlenty_26 : decode cX0_preparePlenty 26 = .ok (.getfield 22, 3) := by decide +kernel
theorem dX0_preparePlenty_29 : decode cX0_preparePlenty 29 = .ok (.invokestatic 70, 3) := by decide +kernel
theorem dX0_preparePlenty_32 : decode cX0_preparePlenty 32 = .ok (.aload_n 0, 1) := by decide +kernel
theorem dX0_preparePlenty_33 : decode cX0_preparePlenty 33 = .ok (.getfield 67, 3) := by decide +kernel
theorem dX0_preparePlenty_36 : decode cX0_preparePlenty 36 = .ok (.iconst 1, 1) := by decide +kernel
theorem dX0_preparePlenty_37 : decode cX0_preparePlenty 37 = .ok (.iadd, 1) := by decide +kernel
theorem dX0_preparePlenty_38 : decode cX0_preparePlenty 38 = .ok (.istore_n 3, 1) := by decide +kernel
theorem dX0_preparePlenty_39 : decode cX0_preparePlenty 39 = .ok (.iload_n 3, 1) := by decide +kernel
theorem dX0_preparePlenty_40 : decode cX0_preparePlenty 40 = .ok (.iload_n 2, 1) := by decide +kernel
theorem dX0_preparePlenty_41 : decode cX0_preparePlenty 41 = .ok (.if_icmp .gt 48, 3) := by decide +kernel
theorem dX0_preparePlenty_44 : decode cX0_preparePlenty 44 = .ok (.aload_n 0, 1) := by decide +kernel
theorem dX0_preparePlenty_45 : decode cX0_preparePlenty 45 = .ok (.getfield 28, 3) := by decide +kernel
theorem dX0_preparePlenty_48 : decode cX0_preparePlenty 48 = .ok (.iload_n 3, 1) := by decide +kernel
theorem dX0_preparePlenty_49 : decode cX0_preparePlenty 49 = .ok (.iconst (-1), 1) := by decide +kernel
theorem dX0_preparePlenty_50 : decode cX0_preparePlenty 50 = .ok (.iastore, 1) := by decide +kernel
theorem dX0_preparePlenty_51 : decode cX0_preparePlenty 51 = .ok (.iconst 0, 1) := by decide +kernel
theorem dX0_preparePlenty_52 : decode cX0_preparePlenty 52 = .ok (.istore 4, 2) := by decide +kernel
theorem dX0_preparePlenty_54 : decode cX0_preparePlenty 54 = .ok (.iload 4, 2) := by decide +kernel
theorem dX0_preparePlenty_56 : decode cX0_preparePlenty 56 = .ok (.aload_n 1, 1) := by decide +kernel
theorem dX0_preparePlenty_57 : decode cX0_preparePlenty 57 = .ok (.getfield 45, 3) := by decide +kernel
theorem dX0_preparePlenty_60 : decode cX0_preparePlenty 60 = .ok (.if_icmp .ge 23, 3) := by decide +kernel
theorem dX0_preparePlenty_63 : decode cX0_preparePlenty 63 = .ok (.aload_n 0, 1) := by decide +kernel
theorem dX0_preparePlenty_64 : decode cX0_preparePlenty 64 = .ok (.iload_n 3, 1) := by decide +kernel
theorem dX0_preparePlenty_65 : decode cX0_preparePlenty 65 = .ok (.iload 4, 2) := by decide +kernel
theorem dX0_preparePlenty_67 : decode cX0_preparePlenty 67 = .ok (.aload_n 1, 1) := by decide +kernel
theorem dX0_preparePlenty_68 : decode cX0_preparePlenty 68 = .ok (.getfield 57, 3) := by decide +kernel
theorem dX0_preparePlenty_71 : decode cX0_preparePlenty 71 = .ok (.iload 4, 2) := by decide +kernel
theorem dX0_preparePlenty_73 : decode cX0_preparePlenty 73 = .ok (.iaload, 1) := by decide +kernel
theorem dX0_preparePlenty_74 : decode cX0_preparePlenty 74 = .ok (.invokevirtual 74, 3) := by decide +kernel
theorem dX0_preparePlenty_77 : decode cX0_preparePlenty 77 = .ok (.iinc 4 1, 3) := by decide +kernel
theorem dX0_preparePlenty_80 : decode cX0_preparePlenty 80 = .ok (.goto (-26), 3) := by decide +kernel
theorem dX0_preparePlenty_83 : decode cX0_preparePlenty 83 = .ok (.iinc 3 1, 3) := by decide +kernel
theorem dX0_preparePlenty_86 : decode cX0_preparePlenty 86 = .ok (.goto (-47), 3) := by decide +kernel
theorem dX0_preparePlenty_89 : decode cX0_preparePlenty 89 = .ok (.aload_n 0, 1) := by decide +kernel
theorem dX0_preparePlenty_90 : decode cX0_preparePlenty 90 = .ok (.aload_n 0, 1) := by decide +kernel
theorem dX0_preparePlenty_91 : decode cX0_preparePlenty 91 = .ok (.getfield 67, 3) := by decide +kernel
theorem dX0_preparePlenty_94 : decode cX0_preparePlenty 94 = .ok (.iload_n 2, 1) := by decide +kernel
theorem dX0_preparePlenty_95 : decode cX0_preparePlenty 95 = .ok (.invokestatic 78, 3) := by decide +kernel
theorem dX0_preparePlenty_98 : decode cX0_preparePlenty 98 = .ok (.putfield 67, 3) := by decide +kernel
theorem dX0_preparePlenty_101 : decode cX0_preparePlenty 101 = .ok (.return_, 1) := by decide +kernel
set_option maxHeartbeats 4000000 in
set_option maxRecDepth 100000 in
theorem m_X0_preparePlenty (l : Launch) (a : Int) (mem : Mem) (hP : PI mem) (hN : 0 ≤ mem 21 0 ∧ mem 21 0 ≤ 8) (hV : ∀ i : Nat, i < 8 → 0 ≤ mem 22 i ∧ mem 22 i ≤ 500) (hV1 : ∀ i : Nat, (i : Int) < mem 21 0 → 1 ≤ mem 22 i) (ha : 0 ≤ a ∧ a ≤ 2500) : Ret shp l yX0_preparePlenty cX0_preparePlenty 5 none 2 [pR 183, pR 21, pI a] mem (fun rv mv => rv = none ∧ (∀ c, c ≠ 183 → c ≠ 187 → c ≠ 188 → c ≠ 189 → mv c = mem c) ∧ PI mv ∧ mv 183 5 = mem 21 0 ∧ a ≤ mv 183 6 ∧ ∀ i : Nat, (i : Int) < mem 21 0 → mv 187 i = mem 22 i) := by
  refine ret_of (by decide +kernel) (Nat.le_of_ble_eq_true rfl) (fun X hX F G => ?_)
  show Ok shp X 5 0 [(0, pR 183), (1, pR 21), (2, pI a)] [] mem
  obtain ⟨p1, p2, p3, p4, p5, p6⟩ := id hP
  have hw1 : ∀ i, i < (mem 21 0).toNat → 1 ≤ (fun i => (mem 22 i).toNat) i := fun i hi => by have := hV1 i (by omega); show 1 ≤ (mem 22 i).toNat; omega
  refine ok_aload_n F dX0_preparePlenty_0 0 rfl ?_
  refine ok_aload_n F dX0_preparePlenty_1 1 rfl ?_
  refine ok_callv F [pR 21] dX0_preparePlenty_2 kM_X0_isPlentyFor kI_X0_isPlentyFor kV_X0_isPlentyFor kL_X0_60 (ci := 0) rfl sh_183 rfl (by decide) (Nat.le_of_ble_eq_true rfl) rfl (m_X0_isPlentyFor _ mem (hP) (by omega) (by omega)) ?_
  rintro _ _ ⟨z_1, rfl, rfl, r_2⟩
  have hz1 := id r_2
  have hJ_32 : ∀  (m0 : Mem), ((∀ c, c ≠ 183 → c ≠ 187 → c ≠ 188 → c ≠ 189 → m0 c = mem c) ∧ PI m0 ∧ m0 183 5 = mem 21 0 ∧ ∀ i : Nat, (i : Int) < mem 21 0 → m0 187 i = mem 22 i) → Ok shp X 5 32 [(0, pR 183), (1, pR 21), (2, pI a)] [] m0 := by
    intro m0 hI_32
    obtain ⟨g0, g1, g2, g3⟩ := hI_32
    have hm021 := g0 21 (by decide) (by decide) (by decide) (by decide)
    have hm022 := g0 22 (by decide) (by decide) (by decide) (by decide)
    obtain ⟨s1, s2, s3, s4, s5, s6⟩ := id g1
    have s7 : PLN (m0 189) (m0 188) (fun i => (mem 22 i).toNat) (mem 21 0).toNat (m0 183 6).toNat := by rw [g2] at s6; exact s6.congr (fun _ _ => ⟨rfl, rfl⟩) (fun i hi => by rw [g3 i (by omega)])
    refine ok_aload_n F dX0_preparePlenty_32 0 rfl ?_
    refine ok_getf (v := m0 183 6) F dX0_preparePlenty_33 kF_X0_67 sh_183 rfl rfl ?_
    refine ok_iconst F dX0_preparePlenty_36 ?_
    refine ok_iadd F dX0_preparePlenty_37 ?_
    refine ok_istore_n (lv' := [(3, pI ((m0 183 6) + 1)), (0, pR 183), (1, pR 21), (2, pI a)]) F dX0_preparePlenty_38 (by decide) rfl ?_
    have hL_39 : ∀ (n_39 : Nat) (x : Int) (m : Mem), (m0 183 6 + 1 ≤ x ∧ (x ≤ a + 1 ∨ x ≤ m0 183 6 + 1) ∧ (∀ c, c ≠ 188 → c ≠ 189 → m c = m0 c) ∧ (∀ y : Nat, y ≤ 2500 → (-1 ≤ m 189 y ∧ m 189 y ≤ 7) ∧ 0 ≤ m 188 y ∧ m 188 y ≤ 2500) ∧ PLN (m 189) (m 188) (fun i => (mem 22 i).toNat) (mem 21 0).toNat (x - 1).toNat) → (2502 - x).toNat = n_39 → Ok shp X 5 39 [(0, pR 183), (1, pR 21), (2, pI a), (3, pI x)] [] m := by
      intro n_39
      induction n_39 using Nat.strongRecOn with
      | _ n_39 ih_39 =>
        intro x m hI_39 hn_39
        obtain ⟨hx0, hx1, hF, hB, hPL⟩ := hI_39
        have hm21 : m 21 = mem 21 := by rw [hF 21 (by decide) (by decide), hm021]
        have hm22 : m 22 = mem 22 := by rw [hF 22 (by decide) (by decide), hm022]
        have hm183 : m 183 = m0 183 := hF 183 (by decide) (by decide)
        refine ok_iload_n F dX0_preparePlenty_39 3 rfl ?_
        refine ok_iload_n F dX0_preparePlenty_40 2 rfl ?_
        refine ok_icmp_gt F 89 dX0_preparePlenty_41 (by decide) (by omega) (by omega) (fun c_3 => ?_) (fun c_3 => ?_)
        · refine ok_aload_n F dX0_preparePlenty_89 0 rfl ?_
          refine ok_aload_n F dX0_preparePlenty_90 0 rfl ?_
          refine ok_getf (v := m0 183 6) F dX0_preparePlenty_91 kF_X0_67 sh_183 rfl (by rw [hm183] <;> rfl) ?_
          refine ok_iload_n F dX0_preparePlenty_94 2 rfl ?_
          refine ok_mmax F dX0_preparePlenty_95 kL_X0_78 kS_J9_max_7cf53 kM_J9_max_7cf53.2.1 kM_J9_max_7cf53.2.2.1 (by omega) (by omega) (by decide) (Nat.le_of_ble_eq_true rfl) ?_
          refine ok_putf F dX0_preparePlenty_98 kF_X0_67 sh_183 rfl rfl rfl (fun m_4 e_5 => ?_)
          refine ok_vret F G dX0_preparePlenty_101 ?_
          refine ⟨rfl, fun c c1 c2 c3 c4 => by rw [e_5, mset_nka c1, hF c c3 c4]; exact g0 c c1 c2 c3 c4, ?_, by rw [e_5, mset_ne (by decide), hm183]; exact g2, by rw [e_5, mset_eq]; omega, fun i hi => by rw [e_5, mset_nk (by decide), hF 187 (by decide) (by decide)]; exact g3 i hi⟩
          have e5 : m_4 183 5 = mem 21 0 := by rw [e_5, mset_ne (by decide), hm183]; exact g2
          have e6 : m_4 183 6 = max (m0 183 6) a := by rw [e_5, mset_eq]
          have e7 : m_4 187 = m0 187 := by rw [e_5, mset_nka (by decide)]; exact hF 187 (by decide) (by decide)
          have e8 : m_4 188 = m 188 := by rw [e_5, mset_nka (by decide)]
          have e9 : m_4 189 = m 189 := by rw [e_5, mset_nka (by decide)]
          unfold PI
          rw [e5, e6, e7, e8, e9]
          rw [g2] at s3
          refine ⟨hN, by omega, s3, s4, hB, ?_⟩
          rw [show (max (m0 183 6) a).toNat = (x - 1).toNat by omega]
          exact hPL.congr (fun _ _ => ⟨rfl, rfl⟩) (fun i hi => by rw [g3 i (by omega)])
        · refine ok_aload_n F dX0_preparePlenty_44 0 rfl ?_
          refine ok_getr F dX0_preparePlenty_45 kF_X0_28 sh_183 rfl ?_
          refine ok_iload_n F dX0_preparePlenty_48 3 rfl ?_
          refine ok_iconst F dX0_preparePlenty_49 ?_
          refine ok_iast F dX0_preparePlenty_50 sh_189 (by first | decide | assumption) (by omega) (by omega) (fun m_6 e_7 => ?_)
          refine ok_iconst F dX0_preparePlenty_51 ?_
          refine ok_istore (lv' := [(4, pI 0), (0, pR 183), (1, pR 21), (2, pI a), (3, pI x)]) F dX0_preparePlenty_52 (by decide) rfl ?_
          have hL_54 : ∀ (n_54 : Nat) (k : Int) (m5 : Mem), (0 ≤ k ∧ k ≤ mem 21 0 ∧ (∀ c, c ≠ 188 → c ≠ 189 → m5 c = m c) ∧ (∀ y : Nat, y ≠ x.toNat → m5 188 y = m 188 y ∧ m5 189 y = m 189 y) ∧ ((-1 ≤ m5 189 x.toNat ∧ m5 189 x.toNat ≤ 7) ∧ 0 ≤ m5 188 x.toNat ∧ m5 188 x.toNat ≤ 2500) ∧ OFF (m5 189) (m5 188) (fun i => (mem 22 i).toNat) k.toNat x.toNat) → (mem 21 0 - k).toNat = n_54 → Ok shp X 5 54 [(0, pR 183), (1, pR 21), (2, pI a), (3, pI x), (4, pI k)] [] m5 := by
            intro n_54
            induction n_54 using Nat.strongRecOn with
            | _ n_54 ih_54 =>
              intro k m5 hI_54 hn_54
              obtain ⟨hk0, hk1, h5F, h5y, h5b, h5o⟩ := hI_54
              have h521 : m5 21 = mem 21 := by rw [h5F 21 (by decide) (by decide), hm21]
              have h522 : m5 22 = mem 22 := by rw [h5F 22 (by decide) (by decide), hm22]
              refine ok_iload F dX0_preparePlenty_54 4 rfl ?_
              refine ok_aload_n F dX0_preparePlenty_56 1 rfl ?_
              refine ok_getf (v := mem 21 0) F dX0_preparePlenty_57 kF_X0_45 sh_21 rfl (by rw [h521] <;> rfl) ?_
              refine ok_icmp_ge F 83 dX0_preparePlenty_60 (by decide) (by omega) (by omega) (fun c_8 => ?_) (fun c_8 => ?_)
              · refine ok_iinc (lv' := [(3, pI (x + 1)), (0, pR 183), (1, pR 21), (2, pI a), (4, pI k)]) F dX0_preparePlenty_83 3 rfl (by decide) rfl ?_
                refine ok_goto F 39 dX0_preparePlenty_86 (by decide) ?_
                refine ok_lvp [1, 2, 3, 0] (lv' := [(0, pR 183), (1, pR 21), (2, pI a), (3, pI (x + 1))]) rfl ?_
                refine ih_39 _ ?_ (x + 1) m5 ?_ rfl
                · omega
                · refine ⟨by omega, by omega, fun c c1 c2 => by rw [h5F c c1 c2]; exact hF c c1 c2, fun y hy => ?_, ?_⟩
                  · by_cases e : y = x.toNat
                    · subst e; exact h5b
                    · rw [(h5y y e).1, (h5y y e).2]; exact hB y hy
                  · rw [show (x + 1 - 1).toNat = x.toNat by omega]
                    exact PLN.ext (by omega) (by rw [show x.toNat - 1 = (x - 1).toNat by omega]; exact hPL) h5y (by rw [show (mem 21 0).toNat = k.toNat by omega]; exact h5o)
              · refine ok_aload_n F dX0_preparePlenty_63 0 rfl ?_
                refine ok_iload_n F dX0_preparePlenty_64 3 rfl ?_
                refine ok_iload F dX0_preparePlenty_65 4 rfl ?_
                refine ok_aload_n F dX0_preparePlenty_67 1 rfl ?_
                refine ok_getr F dX0_preparePlenty_68 kF_X0_57 sh_21 rfl ?_
                refine ok_iload F dX0_preparePlenty_71 4 rfl ?_
                refine ok_iald (v := mem 22 k.toNat) F dX0_preparePlenty_73 sh_22 (by first | decide | assumption) (by omega) (by omega) (by rw [h522] <;> rfl) ?_
                refine ok_callv F [pI x, pI k, pI (mem 22 k.toNat)] dX0_preparePlenty_74 kM_X0_offerKind kI_X0_offerKind kV_X0_offerKind kL_X0_74 (ci := 0) rfl sh_183 rfl (by decide) (Nat.le_of_ble_eq_true rfl) rfl (m_X0_offerKind _ (fun i => (mem 22 i).toNat) x k (mem 22 k.toNat) m5 (by omega) (by omega) (by have q1 := hV k.toNat (by omega); have q2 := hV1 k.toNat (by omega); omega) (fun y hy => by by_cases e : y = x.toNat; (subst e; exact h5b); (rw [(h5y y e).1, (h5y y e).2]; exact hB y hy)) (fun y hy hp => by rw [(h5y y (by omega)).2] at hp; rw [(h5y y (by omega)).1]; exact hPL.le hw1 (by omega) hp) (by show ((mem 22 k.toNat).toNat : Int) = _; have := hV1 k.toNat (by omega); omega) (h5o)) ?_
                rintro _ m_10 ⟨rfl, r_11⟩
                obtain ⟨u1, u2, u3, u4⟩ := id r_11
                refine ok_iinc (lv' := [(4, pI (k + 1)), (0, pR 183), (1, pR 21), (2, pI a), (3, pI x)]) F dX0_preparePlenty_77 4 rfl (by decide) rfl ?_
                refine ok_goto F 54 dX0_preparePlenty_80 (by decide) ?_
                refine ok_lvp [1, 2, 3, 4, 0] (lv' := [(0, pR 183), (1, pR 21), (2, pI a), (3, pI x), (4, pI (k + 1))]) rfl ?_
                refine ih_54 _ ?_ (k + 1) m_10 ?_ rfl
                · omega
                · exact ⟨by omega, by omega, fun c c1 c2 => by rw [u1 c c1 c2]; exact h5F c c1 c2, fun y hy => by rw [(u2 y hy).1, (u2 y hy).2]; exact h5y y hy, u3, u4⟩
          refine ok_lvp [1, 2, 3, 4, 0] (lv' := [(0, pR 183), (1, pR 21), (2, pI a), (3, pI x), (4, pI 0)]) rfl ?_
          refine hL_54 _ 0 m_6 ?_ rfl
          refine ⟨by omega, by omega, fun c c1 c2 => by rw [e_7]; exact mset_nka c2, fun y hy => by rw [e_7]; exact ⟨mset_nk (by decide), mset_ne (fun q => hy q.2)⟩, ?_, Or.inl ⟨by rw [e_7]; exact mset_eq _ _ _ _, fun j hj => by simp at hj⟩⟩
          rw [e_7, mset_eq, mset_nk (by decide)]
          have := hB x.toNat (by omega)
          omega
    refine ok_lvp [1, 2, 3, 0] (lv' := [(0, pR 183), (1, pR 21), (2, pI a), (3, pI ((m0 183 6) + 1))]) rfl ?_
    refine hL_39 _ ((m0 183 6) + 1) m0 ?_ rfl
    exact ⟨by omega, by omega, fun _ _ _ => rfl, s5, by rw [show (m0 183 6 + 1 - 1).toNat = (m0 183 6).toNat by omega]; exact s7⟩
  refine ok_if_ne F 32 dX0_preparePlenty_5 (by decide) (by omega) (fun c_12 => ?_) (fun c_12 => ?_)
  · refine ok_lvp [0, 1, 2] (lv' := [(0, pR 183), (1, pR 21), (2, pI a)]) rfl ?_
    refine hJ_32 mem ?_
    first
      | (rcases hz1 with g | ⟨-, g5, g7⟩; (exfalso; omega); exact ⟨fun _ _ _ _ _ => rfl, hP, g5, g7⟩)
      | exact hreset
  · refine ok_aload_n F dX0_preparePlenty_8 0 rfl ?_
    refine ok_aload_n F dX0_preparePlenty_9 1 rfl ?_
    refine ok_getf (v := mem 21 0) F dX0_preparePlenty_10 kF_X0_45 sh_21 rfl rfl ?_
    refine ok_putf F dX0_preparePlenty_13 kF_X0_64 sh_183 rfl rfl rfl (fun m_13 e_14 => ?_)
    refine ok_aload_n F dX0_preparePlenty_16 0 rfl ?_
    refine ok_iconst F dX0_preparePlenty_17 ?_
    refine ok_putf F dX0_preparePlenty_18 kF_X0_67 sh_183 rfl rfl rfl (fun m_15 e_16 => ?_)
    refine ok_aload_n F dX0_preparePlenty_21 1 rfl ?_
    refine ok_getr F dX0_preparePlenty_22 kF_X0_57 sh_21 rfl ?_
    refine ok_aload_n F dX0_preparePlenty_25 0 rfl ?_
    refine ok_getr F dX0_preparePlenty_26 kF_X0_22 sh_183 rfl ?_
    refine ok_calln F [pR 22, pR 187] dX0_preparePlenty_29 kM_X7_copyRow kS_X7_copyRow (List.mem_of_getElem? (i := 0) rfl) rfl (by decide) (Nat.le_of_ble_eq_true rfl) rfl (m_X7_copyRow _ 22 187 m_15 (8) (sh_22) (sh_187) (by decide)) ?_
    rintro _ m_17 ⟨rfl, e_18⟩
    have hreset : (∀ c, c ≠ 183 → c ≠ 187 → c ≠ 188 → c ≠ 189 → m_17 c = mem c) ∧ PI m_17 ∧ m_17 183 5 = mem 21 0 ∧ ∀ i : Nat, (i : Int) < mem 21 0 → m_17 187 i = mem 22 i := by
      have c3 : ∀ j, m_17 183 j = if j = 6 then 0 else if j = 5 then mem 21 0 else mem 183 j := fun j => by rw [e_18, cpyN_ne (by decide)]; subst_vars; by_cases j6 : j = 6; (rw [if_pos j6, j6, mset_eq]); (rw [if_neg j6, mset_ne (fun q => j6 q.2)]; by_cases j5 : j = 5; (rw [if_pos j5, j5, mset_eq]); (rw [if_neg j5, mset_ne (fun q => j5 q.2)]))
      have co : ∀ c, c ≠ 183 → c ≠ 187 → m_17 c = mem c := fun c c1 c2 => by rw [e_18]; funext b; rw [cpyN_ne c2]; subst_vars; rw [mset_nk c1, mset_nk c1]
      have c7 : ∀ i, i < 8 → m_17 187 i = mem 22 i := fun i hi => by rw [e_18]; unfold cpyN; rw [if_pos (by omega), show 0 + (i - 0) = i by omega]; subst_vars; rw [mset_nk (by decide), mset_nk (by decide)]
      refine ⟨fun c c1 c2 _ _ => co c c1 c2, ?_, by rw [c3]; rfl, fun i hi => c7 i (by omega)⟩
      unfold PI
      rw [co 188 (by decide) (by decide), co 189 (by decide) (by decide), show m_17 183 5 = mem 21 0 by rw [c3]; rfl, show m_17 183 6 = 0 by rw [c3]; rfl]
      exact ⟨hN, by decide, fun i hi => by rw [c7 i (by omega)]; exact ⟨hV1 i hi, (hV i (by omega)).2⟩, fun i hi => by rw [c7 i hi]; exact hV i hi, p5, p6.1, p6.2.1, fun a h1 h2 => by exfalso; simp at h2; omega⟩
    refine ok_lvp [0, 1, 2] (lv' := [(0, pR 183), (1, pR 21), (2, pI a)]) rfl ?_
    refine hJ_32 m_17 ?_
    first
      | (rcases hz1 with g | ⟨-, g5, g7⟩; (exfalso; omega); exact ⟨fun _ _ _ _ _ => rfl, hP, g5, g7⟩)
      | exact hreset
theorem dX0_takeAsFromPlenty_0 : decode cX0_takeAsFromPlenty 0 = .ok (.iconst 0, 1) := by decide +kernel
theorem dX0_takeAsFromPlenty_1 : decode cX0_takeAsFromPlenty 1 = .ok (.istore 4, 2) := by decide +kernel
theorem dX0_takeAsFromPlenty_3 : decode cX0_takeAsFromPlenty 3 = .ok (.iload 4, 2) := by decide +kernel
theorem dX0_takeAsFromPlenty_5 : decode cX0_takeAsFromPlenty 5 = .ok (.bipush 8, 2) := by decide +kernel
theorem dX0_takeAsFromPlenty_7 : decode cX0_takeAsFromPlenty 7 = .ok (.if_icmp .ge 17, 3) := by decide +kernel
theorem dX0_takeAsFromPlenty_10 : decode cX0_takeAsFromPlenty 10 = .ok (.aload_n 0, 1) := by decide +kernel
theorem dX0_takeAsFromPlenty_11 : decode cX0_takeAsFromPlenty 11 = .ok (.getfield 9, 3) := by decide +kernel
theorem dX0_takeAsFromPlenty_14 : decode cX0_takeAsFromPlenty 14 = .ok (.iload 4, 2) := by decide +kernel
theorem dX0_takeAsFromPlenty_16 : decode cX0_takeAsFromPlenty 16 = .ok (.iconst 0, 1) := by decide +kernel
theorem dX0_takeAsFromPlenty_17 : decode cX0_takeAsFromPlenty 17 = .ok (.iastore, 1) := by decide +kernel
theorem dX0_takeAsFromPlenty_18 : decode cX0_takeAsFromPlenty 18 = .ok (.iinc 4 1, 3) := by decide +kernel
theorem dX0_takeAsFromPlenty_21 : decode cX0_takeAsFromPlenty 21 = .ok (.goto (-18), 3) := by decide +kernel
theorem dX0_takeAsFromPlenty_24 : decode cX0_takeAsFromPlenty 24 = .ok (.iload_n 3, 1) := by decide +kernel
theorem dX0_takeAsFromPlenty_25 : decode cX0_takeAsFromPlenty 25 = .ok (.istore 4, 2) := by decide +kernel
theorem dX0_takeAsFromPlenty_27 : decode cX0_takeAsFromPlenty 27 = .ok (.iconst 0, 1) := by decide +kernel
theorem dX0_takeAsFromPlenty_28 : decode cX0_takeAsFromPlenty 28 = .ok (.istore 5, 2) := by decide +kernel
theorem dX0_takeAsFromPlenty_30 : decode cX0_takeAsFromPlenty 30 = .ok (.iload 5, 2) := by decide +kernel
theorem dX0_takeAsFromPlenty_32 : decode cX0_takeAsFromPlenty 32 = .ok (.sipush 2500, 3) := by decide +kernel
theorem dX0_takeAsFromPlenty_35 : decode cX0_takeAsFromPlenty 35 = .ok (.if_icmp .ge 88, 3) := by decide +kernel
theorem dX0_takeAsFromPlenty_38 : decode cX0_takeAsFromPlenty 38 = .ok (.iload 4, 2) := by decide +kernel
theorem dX0_takeAsFromPlenty_40 : decode cX0_takeAsFromPlenty 40 = .ok (.ifCond .le 83, 3) := by decide +kernel
theorem dX0_takeAsFromPlenty_43 : decode cX0_takeAsFromPlenty 43 = .ok (.aload_n 0, 1) := by decide +kernel
theorem dX0_takeAsFromPlenty_44 : decode cX0_takeAsFromPlenty 44 = .ok (.getfield 28, 3) := by decide +kernel
theorem dX0_takeAsFromPlenty_47 : decode cX0_takeAsFromPlenty 47 = .ok (.iload 4, 2) := by decide +kernel
theorem dX0_takeAsFromPlenty_49 : decode cX0_takeAsFromPlenty 49 = .ok (.iaload, 1) := by decide +kernel
theorem dX0_takeAsFromPlenty_50 : decode cX0_takeAsFromPlenty 50 = .ok (.istore 6, 2) := by decide +kernel
theorem dX0_takeAsFromPlenty_52 : decode cX0_takeAsFromPlenty 52 = .ok (.iload 6, 2) := by decide +kernel
theorem dX0_takeAsFromPlenty_54 : decode cX0_takeAsFromPlenty 54 = .ok (.ifCond .lt 38, 3) := by decide +kernel
theorem dX0_takeAsFromPlenty_57 : decode cX0_takeAsFromPlenty 57 = .ok (.iload 6, 2) := by decide +kernel
theorem dX0_takeAsFromPlenty_59 : decode cX0_takeAsFromPlenty 59 = .ok (.aload_n 1, 1) := by decide +kernel
theorem dX0_takeAsFromPlenty_60 : decode cX0_takeAsFromPlenty 60 = .ok (.getfield 45, 3) := by decide +kernel
theorem dX0_takeAsFromPlenty_63 : decode cX0_takeAsFromPlenty 63 = .ok (.if_icmp .ge 29, 3) := by decide +kernel
theorem dX0_takeAsFromPlenty_66 : decode cX0_takeAsFromPlenty 66 = .ok (.aload_n 1, 1) := by decide +kernel
theorem dX0_takeAsFromPlenty_67 : decode cX0_takeAsFromPlenty 67 = .ok (.getfield 57, 3) := by decide +kernel
theorem dX0_takeAsFromPlenty_70 : decode cX0_takeAsFromPlenty 70 = .ok (.iload 6, 2) := by decide +kernel
theorem dX0_takeAsFromPlenty_72 : decode cX0_takeAsFromPlenty 72 = .ok (.iaload, 1) := by decide +kernel
theorem dX0_takeAsFromPlenty_73 : decode cX0_takeAsFromPlenty 73 = .ok (.iload 4, 2) := by decide +kernel
theorem dX0_takeAsFromPlenty_75 : decode cX0_takeAsFromPlenty 75 = .ok (.if_icmp .gt 17, 3) := by decide +kernel
theorem dX0_takeAsFromPlenty_78 : decode cX0_takeAsFromPlenty 78 = .ok (.aload_n 0, 1) := by decide +kernel
theorem dX0_takeAsFromPlenty_79 : decode cX0_takeAsFromPlenty 79 = .ok (.getfield 9, 3) := by decide +kernel
theorem dX0_takeAsFromPlenty_82 : decode cX0_takeAsFromPlenty 82 = .ok (.iload 6, 2) := by decide +kernel
theorem dX0_takeAsFromPlenty_84 : decode cX0_takeAsFromPlenty 84 = .ok (.iaload, 1) := by decide +kernel
theorem dX0_takeAsFromPlenty_85 : decode cX0_takeAsFromPlenty 85 = .ok (.aload_n 2, 1) := by decide +kernel
theorem dX0_takeAsFromPlenty_86 : decode cX0_takeAsFromPlenty 86 = .ok (.iload 6, 2) := by decide +kernel
theorem dX0_takeAsFromPlenty_88 : decode cX0_takeAsFromPlenty 88 = .ok (.iaload, 1) := by decide +kernel
theorem dX0_takeAsFromPlenty_89 : decode cX0_takeAsFromPlenty 89 = .ok (.if_icmp .lt 5, 3) := by decide +kernel
theorem dX0_takeAsFromPlenty_92 : decode cX0_takeAsFromPlenty 92 = .ok (.iconst 0, 1) := by decide +kernel
theorem dX0_takeAsFromPlenty_93 : decode cX0_takeAsFromPlenty 93 = .ok (.ireturn, 1) := by decide +kernel
theorem dX0_takeAsFromPlenty_94 : decode cX0_takeAsFromPlenty 94 = .ok (.aload_n 0, 1) := by decide +kernel
theorem dX0_takeAsFromPlenty_95 : decode cX0_takeAsFromPlenty 95 = .ok (.getfield 9, 3) := by decide +kernel
theorem dX0_takeAsFromPlenty_98 : decode cX0_takeAsFromPlenty 98 = .ok (.iload 6, 2) := by decide +kernel
theorem dX0_takeAsFromPlenty_100 : decode cX0_takeAsFromPlenty 100 = .ok (.dup2, 1) := by decide +kernel
theorem dX0_takeAsFromPlenty_101 : decode cX0_takeAsFromPlenty 101 = .ok (.iaload, 1) := by decide +kernel
theorem dX0_takeAsFromPlenty_102 : decode cX0_takeAsFromPlenty 102 = .ok (.iconst 1, 1) := by decide +kernel
theorem dX0_takeAsFromPlenty_103 : decode cX0_takeAsFromPlenty 103 = .ok (.iadd, 1) := by decide +kernel
theorem dX0_takeAsFromPlenty_104 : decode cX0_takeAsFromPlenty 104 = .ok (.iastore, 1) := by decide +kernel
theorem dX0_takeAsFromPlenty_105 : decode cX0_takeAsFromPlenty 105 = .ok (.iload 4, 2) := by decide +kernel
theorem dX0_takeAsFromPlenty_107 : decode cX0_takeAsFromPlenty 107 = .ok (.aload_n 1, 1) := by decide +kernel
theorem dX0_takeAsFromPlenty_108 : decode cX0_takeAsFromPlenty 108 = .ok (.getfield 57, 3) := by decide +kernel
theorem dX0_takeAsFromPlenty_111 : decode cX0_takeAsFromPlenty 111 = .ok (.iload 6, 2) := by decide +kernel
theorem dX0_takeAsFromPlenty_113 : decode cX0_takeAsFromPlenty 113 = .ok (.iaload, 1) := by decide +kernel
theorem dX0_takeAsFromPlenty_114 : decode cX0_takeAsFromPlenty 114 = .ok (.isub, 1) := by decide +kernel
theorem dX0_takeAsFromPlenty_115 : decode cX0_takeAsFromPlenty 115 = .ok (.istore 4, 2) := by decide +kernel
theorem dX0_takeAsFromPlenty_117 : decode cX0_takeAsFromPlenty 117 = .ok (.iinc 5 1, 3) := by decide +kernel
theorem dX0_takeAsFromPlenty_120 : decode cX0_takeAsFromPlenty 120 = .ok (.goto (-90), 3) := by decide +kernel
theorem dX0_takeAsFromPlenty_123 : decode cX0_takeAsFromPlenty 123 = .ok (.iload 4, 2) := by decide +kernel
theorem dX0_takeAsFromPlenty_125 : decode cX0_takeAsFromPlenty 125 = .ok (.ifCond .ne 7, 3) := by decide +kernel
theorem dX0_takeAsFromPlenty_128 : decode cX0_takeAsFromPlenty 128 = .ok (.iconst 1, 1) := by decide +kernel
theorem dX0_takeAsFromPlenty_129 : decode cX0_takeAsFromPlenty 129 = .ok (.goto 4, 3) := by decide +kernel
theorem dX0_takeAsFromPlenty_132 : decode cX0_takeAsFromPlenty 132 = .ok (.iconst 0, 1) := by decide +kernel
theorem dX0_takeAsFromPlenty_133 : decode cX0_takeAsFromPlenty 133 = .ok (.ireturn, 1) := by decide +kernel
set_option maxHeartbeats 4000000 in
set_option maxRecDepth 100000 in
theorem m_X0_takeAsFromPlenty (l : Launch) (R : Nat) (a : Int) (mem : Mem) (hP : PI mem) (hN : 0 ≤ mem 21 0 ∧ mem 21 0 ≤ 8) (hV : ∀ i : Nat, i < 8 → 0 ≤ mem 22 i ∧ mem 22 i ≤ 500) (hV1 : ∀ i : Nat, (i : Int) < mem 21 0 → 1 ≤ mem 22 i) (ha : 0 ≤ a ∧ a ≤ 2500) (hn5 : mem 183 5 = mem 21 0) (ht6 : a ≤ mem 183 6) (hw : ∀ i : Nat, (i : Int) < mem 21 0 → mem 187 i = mem 22 i) (hk : 0 ≤ mem 189 a.toNat) (hR : shp[R]? = some (.inr (.inl (0, 8)))) (hRn : R ≠ 185) (hC : ∀ i : Nat, (i : Int) < mem 21 0 → 0 ≤ mem R i ∧ mem R i ≤ 200) : Ret shp l yX0_takeAsFromPlenty cX0_takeAsFromPlenty 7 (some .boolean) 0 [pR 183, pR 21, pR R, pI a] mem (fun rv mv => ∃ z, rv = some (pI z) ∧ (∀ c, c ≠ 185 → mv c = mem c) ∧ (z = 0 ∨ z = 1 ∧ (∀ j : Nat, j < 8 → mv 185 j = (plR (mem 189) (fun i => (mem 22 i).toNat) 2500 a.toNat j : Nat)) ∧ ∀ i, i < (mem 21 0).toNat → plR (mem 189) (fun i => (mem 22 i).toNat) 2500 a.toNat i ≤ (fun i => (mem R i).toNat) i)) := by
  refine ret_of (by decide +kernel) (Nat.le_of_ble_eq_true rfl) (fun X hX F G => ?_)
  show Ok shp X 7 0 [(0, pR 183), (1, pR 21), (2, pR R), (3, pI a)] [] mem
  obtain ⟨p1, p2, p3, p4, p5, p6⟩ := id hP
  have hw1 : ∀ i, i < (mem 21 0).toNat → 1 ≤ (fun i => (mem 22 i).toNat) i := fun i hi => by have := hV1 i (by omega); show 1 ≤ (mem 22 i).toNat; omega
  have hPL : PLN (mem 189) (mem 188) (fun i => (mem 22 i).toNat) (mem 21 0).toNat (mem 183 6).toNat := by rw [hn5] at p6; exact p6.congr (fun _ _ => ⟨rfl, rfl⟩) (fun i hi => by rw [hw i (by omega)])
  refine ok_iconst F dX0_takeAsFromPlenty_0 ?_
  refine ok_istore (lv' := [(4, pI 0), (0, pR 183), (1, pR 21), (2, pR R), (3, pI a)]) F dX0_takeAsFromPlenty_1 (by decide) rfl ?_
  have hL_3 : ∀ (n_3 : Nat) (k : Int) (m : Mem), (0 ≤ k ∧ k ≤ 8 ∧ (∀ c, c ≠ 185 → m c = mem c) ∧ ∀ j : Nat, (j : Int) < k → m 185 j = 0) → (8 - k).toNat = n_3 → Ok shp X 7 3 [(0, pR 183), (1, pR 21), (2, pR R), (3, pI a), (4, pI k)] [] m := by
    intro n_3
    induction n_3 using Nat.strongRecOn with
    | _ n_3 ih_3 =>
      intro k m hI_3 hn_3
      obtain ⟨hk0, hk1, hF, hZ⟩ := hI_3
      refine ok_iload F dX0_takeAsFromPlenty_3 4 rfl ?_
      refine ok_bipush F dX0_takeAsFromPlenty_5 rfl ?_
      refine ok_icmp_ge F 24 dX0_takeAsFromPlenty_7 (by decide) (by omega) (by omega) (fun c_1 => ?_) (fun c_1 => ?_)
      · refine ok_iload_n F dX0_takeAsFromPlenty_24 3 rfl ?_
        refine ok_istore (lv' := [(4, pI a), (0, pR 183), (1, pR 21), (2, pR R), (3, pI a)]) F dX0_takeAsFromPlenty_25 (by decide) rfl ?_
        refine ok_iconst F dX0_takeAsFromPlenty_27 ?_
        refine ok_istore (lv' := [(5, pI 0), (4, pI a), (0, pR 183), (1, pR 21), (2, pR R), (3, pI a)]) F dX0_takeAsFromPlenty_28 (by decide) rfl ?_
        have hL_30 : ∀ (n_30 : Nat) (lf : Int) (i : Int) (m2 : Mem), ((0 ≤ i ∧ i ≤ 2500) ∧ (0 ≤ lf ∧ lf + i ≤ a) ∧ (∀ c, c ≠ 185 → m2 c = mem c) ∧ 0 ≤ mem 189 lf.toNat ∧ (∀ j : Nat, j < 8 → m2 185 j + (plR (mem 189) (fun i => (mem 22 i).toNat) (2500 - i).toNat lf.toNat j : Nat) = (plR (mem 189) (fun i => (mem 22 i).toNat) 2500 a.toNat j : Nat)) ∧ ∀ j : Nat, j < 8 → 0 ≤ m2 185 j ∧ m2 185 j ≤ 200 ∧ ((j : Int) < mem 21 0 → m2 185 j ≤ mem R j)) → (2500 - i).toNat = n_30 → Ok shp X 7 30 [(0, pR 183), (1, pR 21), (2, pR R), (3, pI a), (4, pI lf), (5, pI i)] [] m2 := by
          intro n_30
          induction n_30 using Nat.strongRecOn with
          | _ n_30 ih_30 =>
            intro lf i m2 hI_30 hn_30
            obtain ⟨hi, hl, hF2, hkl, hrow, hrb⟩ := hI_30
            have h189 := hF2 189 (by decide)
            have h21 := hF2 21 (by decide)
            have h22 := hF2 22 (by decide)
            have hR2 := hF2 R hRn
            refine ok_iload F dX0_takeAsFromPlenty_30 5 rfl ?_
            refine ok_sipush F dX0_takeAsFromPlenty_32 rfl ?_
            refine ok_icmp_ge F 123 dX0_takeAsFromPlenty_35 (by decide) (by omega) (by omega) (fun c_2 => ?_) (fun c_2 => ?_)
            · refine ok_iload F dX0_takeAsFromPlenty_123 4 rfl ?_
              refine ok_if_ne F 132 dX0_takeAsFromPlenty_125 (by decide) (by omega) (fun c_3 => ?_) (fun c_3 => ?_)
              · refine ok_iconst F dX0_takeAsFromPlenty_132 ?_
                refine ok_zret F G dX0_takeAsFromPlenty_133 (by first | rfl | exact zb_nar) ?_
                first
                  | (refine ⟨_, rfl, hF2, Or.inr ⟨rfl, fun j hj => ?_, fun j hj => ?_⟩⟩
                     · have q := hrow j hj; rw [show lf.toNat = 0 by omega, plR_0] at q; omega
                     · have q := hrow j (by omega); have q2 := hrb j (by omega); have q3 := q2.2.2 (by omega); rw [show lf.toNat = 0 by omega, plR_0] at q; show _ ≤ (mem R j).toNat; omega)
                  | exact ⟨_, rfl, hF2, Or.inl rfl⟩
              · refine ok_iconst F dX0_takeAsFromPlenty_128 ?_
                refine ok_goto F 133 dX0_takeAsFromPlenty_129 (by decide) ?_
                refine ok_zret F G dX0_takeAsFromPlenty_133 (by first | rfl | exact zb_nar) ?_
                first
                  | (refine ⟨_, rfl, hF2, Or.inr ⟨rfl, fun j hj => ?_, fun j hj => ?_⟩⟩
                     · have q := hrow j hj; rw [show lf.toNat = 0 by omega, plR_0] at q; omega
                     · have q := hrow j (by omega); have q2 := hrb j (by omega); have q3 := q2.2.2 (by omega); rw [show lf.toNat = 0 by omega, plR_0] at q; show _ ≤ (mem R j).toNat; omega)
                  | exact ⟨_, rfl, hF2, Or.inl rfl⟩
            · refine ok_iload F dX0_takeAsFromPlenty_38 4 rfl ?_
              refine ok_if_le F 123 dX0_takeAsFromPlenty_40 (by decide) (by omega) (fun c_4 => ?_) (fun c_4 => ?_)
              · refine ok_iload F dX0_takeAsFromPlenty_123 4 rfl ?_
                refine ok_if_ne F 132 dX0_takeAsFromPlenty_125 (by decide) (by omega) (fun c_5 => ?_) (fun c_5 => ?_)
                · refine ok_iconst F dX0_takeAsFromPlenty_132 ?_
                  refine ok_zret F G dX0_takeAsFromPlenty_133 (by first | rfl | exact zb_nar) ?_
                  first
                    | (refine ⟨_, rfl, hF2, Or.inr ⟨rfl, fun j hj => ?_, fun j hj => ?_⟩⟩
                       · have q := hrow j hj; rw [show lf.toNat = 0 by omega, plR_0] at q; omega
                       · have q := hrow j (by omega); have q2 := hrb j (by omega); have q3 := q2.2.2 (by omega); rw [show lf.toNat = 0 by omega, plR_0] at q; show _ ≤ (mem R j).toNat; omega)
                    | exact ⟨_, rfl, hF2, Or.inl rfl⟩
                · refine ok_iconst F dX0_takeAsFromPlenty_128 ?_
                  refine ok_goto F 133 dX0_takeAsFromPlenty_129 (by decide) ?_
                  refine ok_zret F G dX0_takeAsFromPlenty_133 (by first | rfl | exact zb_nar) ?_
                  first
                    | (refine ⟨_, rfl, hF2, Or.inr ⟨rfl, fun j hj => ?_, fun j hj => ?_⟩⟩
                       · have q := hrow j hj; rw [show lf.toNat = 0 by omega, plR_0] at q; omega
                       · have q := hrow j (by omega); have q2 := hrb j (by omega); have q3 := q2.2.2 (by omega); rw [show lf.toNat = 0 by omega, plR_0] at q; show _ ≤ (mem R j).toNat; omega)
                    | exact ⟨_, rfl, hF2, Or.inl rfl⟩
              · refine ok_aload_n F dX0_takeAsFromPlenty_43 0 rfl ?_
                refine ok_getr F dX0_takeAsFromPlenty_44 kF_X0_28 sh_183 rfl ?_
                refine ok_iload F dX0_takeAsFromPlenty_47 4 rfl ?_
                refine ok_iald (v := mem 189 lf.toNat) F dX0_takeAsFromPlenty_49 sh_189 (by first | decide | assumption) (by omega) (by omega) (by rw [h189] <;> rfl) ?_
                refine ok_istore (lv' := [(6, pI (mem 189 lf.toNat)), (0, pR 183), (1, pR 21), (2, pR R), (3, pI a), (4, pI lf), (5, pI i)]) F dX0_takeAsFromPlenty_50 (by decide) rfl ?_
                have pb := p5 lf.toNat (by omega)
                refine ok_iload F dX0_takeAsFromPlenty_52 0 rfl ?_
                refine ok_if_lt F 92 dX0_takeAsFromPlenty_54 (by decide) (by omega) (fun c_6 => ?_) (fun c_6 => ?_)
                · refine ok_iconst F dX0_takeAsFromPlenty_92 ?_
                  refine ok_zret F G dX0_takeAsFromPlenty_93 (by first | rfl | exact zb_nar) ?_
                  exact ⟨_, rfl, hF2, Or.inl rfl⟩
                · refine ok_iload F dX0_takeAsFromPlenty_57 0 rfl ?_
                  refine ok_aload_n F dX0_takeAsFromPlenty_59 2 rfl ?_
                  refine ok_getf (v := mem 21 0) F dX0_takeAsFromPlenty_60 kF_X0_45 sh_21 rfl (by rw [h21] <;> rfl) ?_
                  refine ok_icmp_ge F 92 dX0_takeAsFromPlenty_63 (by decide) (by omega) (by omega) (fun c_7 => ?_) (fun c_7 => ?_)
                  · refine ok_iconst F dX0_takeAsFromPlenty_92 ?_
                    refine ok_zret F G dX0_takeAsFromPlenty_93 (by first | rfl | exact zb_nar) ?_
                    exact ⟨_, rfl, hF2, Or.inl rfl⟩
                  · have vb := hV (mem 189 lf.toNat).toNat (by omega)
                    refine ok_aload_n F dX0_takeAsFromPlenty_66 2 rfl ?_
                    refine ok_getr F dX0_takeAsFromPlenty_67 kF_X0_57 sh_21 rfl ?_
                    refine ok_iload F dX0_takeAsFromPlenty_70 0 rfl ?_
                    refine ok_iald (v := mem 22 ((mem 189 lf.toNat).toNat)) F dX0_takeAsFromPlenty_72 sh_22 (by first | decide | assumption) (by omega) (by omega) (by rw [h22] <;> rfl) ?_
                    refine ok_iload F dX0_takeAsFromPlenty_73 5 rfl ?_
                    refine ok_icmp_gt F 92 dX0_takeAsFromPlenty_75 (by decide) (by omega) (by omega) (fun c_8 => ?_) (fun c_8 => ?_)
                    · refine ok_iconst F dX0_takeAsFromPlenty_92 ?_
                      refine ok_zret F G dX0_takeAsFromPlenty_93 (by first | rfl | exact zb_nar) ?_
                      exact ⟨_, rfl, hF2, Or.inl rfl⟩
                    · have rb := hrb (mem 189 lf.toNat).toNat (by omega)
                      have cb := hC (mem 189 lf.toNat).toNat (by omega)
                      rw [← hR2] at cb
                      refine ok_aload_n F dX0_takeAsFromPlenty_78 1 rfl ?_
                      refine ok_getr F dX0_takeAsFromPlenty_79 kF_X0_9 sh_183 rfl ?_
                      refine ok_iload F dX0_takeAsFromPlenty_82 0 rfl ?_
                      refine ok_iald (v := m2 185 ((mem 189 lf.toNat).toNat)) F dX0_takeAsFromPlenty_84 sh_185 (by first | decide | assumption) (by omega) (by omega) rfl ?_
                      refine ok_aload_n F dX0_takeAsFromPlenty_85 3 rfl ?_
                      refine ok_iload F dX0_takeAsFromPlenty_86 0 rfl ?_
                      refine ok_iald (v := m2 R ((mem 189 lf.toNat).toNat)) F dX0_takeAsFromPlenty_88 hR (by first | decide | assumption) (by omega) (by omega) rfl ?_
                      refine ok_icmp_lt F 94 dX0_takeAsFromPlenty_89 (by decide) (by omega) (by omega) (fun c_9 => ?_) (fun c_9 => ?_)
                      · obtain ⟨q1, q2⟩ | ⟨K, k1, k2, k3, k4, k5, k6⟩ := hPL.2.2 lf.toNat (by omega) (by omega)
                        · exfalso; omega
                        have eK : (mem 189 lf.toNat).toNat = K := by omega
                        dsimp only at k3 k4
                        have vK := hV1 K (by omega)
                        have rb := hrb (mem 189 lf.toNat).toNat (by omega)
                        have eK2 : mem 22 (mem 189 lf.toNat).toNat = mem 22 K := by rw [eK]
                        refine ok_aload_n F dX0_takeAsFromPlenty_94 1 rfl ?_
                        refine ok_getr F dX0_takeAsFromPlenty_95 kF_X0_9 sh_183 rfl ?_
                        refine ok_iload F dX0_takeAsFromPlenty_98 0 rfl ?_
                        refine ok_dup2 F dX0_takeAsFromPlenty_100 rfl rfl ?_
                        refine ok_iald (v := m2 185 ((mem 189 lf.toNat).toNat)) F dX0_takeAsFromPlenty_101 sh_185 (by first | decide | assumption) (by omega) (by omega) rfl ?_
                        refine ok_iconst F dX0_takeAsFromPlenty_102 ?_
                        refine ok_iadd F dX0_takeAsFromPlenty_103 ?_
                        refine ok_iast F dX0_takeAsFromPlenty_104 sh_185 (by first | decide | assumption) (by omega) (by omega) (fun m_10 e_11 => ?_)
                        refine ok_iload F dX0_takeAsFromPlenty_105 5 rfl ?_
                        refine ok_aload_n F dX0_takeAsFromPlenty_107 2 rfl ?_
                        refine ok_getr F dX0_takeAsFromPlenty_108 kF_X0_57 sh_21 rfl ?_
                        refine ok_iload F dX0_takeAsFromPlenty_111 0 rfl ?_
                        refine ok_iald (v := mem 22 ((mem 189 lf.toNat).toNat)) F dX0_takeAsFromPlenty_113 sh_22 (by first | decide | assumption) (by omega) (by omega) (by rw [e_11, mset_nk (by decide), h22] <;> rfl) ?_
                        refine ok_isub F dX0_takeAsFromPlenty_114 ?_
                        refine ok_istore (lv' := [(4, pI (lf - (mem 22 ((mem 189 lf.toNat).toNat)))), (6, pI (mem 189 lf.toNat)), (0, pR 183), (1, pR 21), (2, pR R), (3, pI a), (5, pI i)]) F dX0_takeAsFromPlenty_115 (by decide) rfl ?_
                        refine ok_iinc (lv' := [(5, pI (i + 1)), (4, pI (lf - (mem 22 ((mem 189 lf.toNat).toNat)))), (6, pI (mem 189 lf.toNat)), (0, pR 183), (1, pR 21), (2, pR R), (3, pI a)]) F dX0_takeAsFromPlenty_117 6 rfl (by decide) rfl ?_
                        refine ok_goto F 30 dX0_takeAsFromPlenty_120 (by decide) ?_
                        refine ok_lvp [3, 4, 5, 6, 1, 0] (lv' := [(0, pR 183), (1, pR 21), (2, pR R), (3, pI a), (4, pI (lf - (mem 22 ((mem 189 lf.toNat).toNat)))), (5, pI (i + 1))]) rfl ?_
                        refine ih_30 _ ?_ (lf - (mem 22 ((mem 189 lf.toNat).toNat))) (i + 1) m_10 ?_ rfl
                        · omega
                        · refine ⟨by omega, by omega, fun c hc => by rw [e_11, mset_nka hc]; exact hF2 c hc, ?_, fun j hj => ?_, fun j hj => ?_⟩
                          · rw [show (lf - mem 22 (mem 189 lf.toNat).toNat).toNat = lf.toNat - (mem 22 K).toNat by omega]; exact k4
                          · rw [e_11]; have q := hrow j hj; rw [show (2500 - i).toNat = (2500 - (i + 1)).toNat + 1 by omega, plR_s (by omega) k2] at q; rw [show (lf - mem 22 (mem 189 lf.toNat).toNat).toNat = lf.toNat - (mem 22 K).toNat by omega]
                            unfold rowInc at q
                            by_cases e : j = (mem 189 lf.toNat).toNat
                            · subst e; rw [mset_eq]; rw [if_pos (by omega)] at q; omega
                            · rw [mset_ne (fun q => e q.2)]; rw [if_neg (by omega)] at q; omega
                          · rw [e_11]; by_cases e : j = (mem 189 lf.toNat).toNat
                            · subst e; rw [mset_eq]; have q1 := hrb (mem 189 lf.toNat).toNat hj; have q2 := hC (mem 189 lf.toNat).toNat (by omega); exact ⟨by omega, by omega, fun _ => by rw [← hR2]; omega⟩
                            · rw [mset_ne (fun q => e q.2)]; exact hrb j hj
                      · refine ok_iconst F dX0_takeAsFromPlenty_92 ?_
                        refine ok_zret F G dX0_takeAsFromPlenty_93 (by first | rfl | exact zb_nar) ?_
                        exact ⟨_, rfl, hF2, Or.inl rfl⟩
        refine ok_lvp [2, 3, 4, 5, 1, 0] (lv' := [(0, pR 183), (1, pR 21), (2, pR R), (3, pI a), (4, pI a), (5, pI 0)]) rfl ?_
        refine hL_30 _ a 0 m ?_ rfl
        refine ⟨by omega, by omega, hF, hk, fun j hj => ?_, fun j hj => ⟨?_, ?_, fun q => ?_⟩⟩
        · rw [hZ j (by omega), show (2500 - 0 : Int).toNat = 2500 from rfl, Int.zero_add]
        · rw [hZ j (by omega)]; omega
        · rw [hZ j (by omega)]; omega
        · rw [hZ j (by omega)]; exact (hC j q).1
      · refine ok_aload_n F dX0_takeAsFromPlenty_10 0 rfl ?_
        refine ok_getr F dX0_takeAsFromPlenty_11 kF_X0_9 sh_183 rfl ?_
        refine ok_iload F dX0_takeAsFromPlenty_14 4 rfl ?_
        refine ok_iconst F dX0_takeAsFromPlenty_16 ?_
        refine ok_iast F dX0_takeAsFromPlenty_17 sh_185 (by first | decide | assumption) (by omega) (by omega) (fun m_12 e_13 => ?_)
        refine ok_iinc (lv' := [(4, pI (k + 1)), (0, pR 183), (1, pR 21), (2, pR R), (3, pI a)]) F dX0_takeAsFromPlenty_18 4 rfl (by decide) rfl ?_
        refine ok_goto F 3 dX0_takeAsFromPlenty_21 (by decide) ?_
        refine ok_lvp [1, 2, 3, 4, 0] (lv' := [(0, pR 183), (1, pR 21), (2, pR R), (3, pI a), (4, pI (k + 1))]) rfl ?_
        refine ih_3 _ ?_ (k + 1) m_12 ?_ rfl
        · omega
        · refine ⟨by omega, by omega, fun c hc => by rw [e_13, mset_nka hc]; exact hF c hc, fun j hj => ?_⟩
          rw [e_13]
          by_cases e : j = k.toNat
          · rw [e, mset_eq]
          · rw [mset_ne (fun q => e q.2)]; exact hZ j (by omega)
  refine ok_lvp [1, 2, 3, 4, 0] (lv' := [(0, pR 183), (1, pR 21), (2, pR R), (3, pI a), (4, pI 0)]) rfl ?_
  refine hL_3 _ 0 mem ?_ rfl
  exact ⟨by omega, by omega, fun _ _ => rfl, fun j hj => by omega⟩
