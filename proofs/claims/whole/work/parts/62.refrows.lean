/-! the reference: reading, as what it makes of the memory -/
def numM (mem : Mem) (lo hi : Int) : Mem := mset (mset (mset mem 0 8 (numR mem lo hi).2.1) 0 9 (numR mem lo hi).2.2.1) 0 10 (numR mem lo hi).2.2.2
theorem numM_of {mem mv : Mem} {lo hi z : Int} (h1 : ∀ a, a ≠ 0 → mv a = mem a) (h2 : ∀ j, j ≠ 8 → j ≠ 9 → j ≠ 10 → mv 0 j = mem 0 j) (h3 : (z, mv 0 8, mv 0 9, mv 0 10) = numR mem lo hi) : z = (numR mem lo hi).1 ∧ mv = numM mem lo hi := by
  refine ⟨by rw [← h3], ?_⟩
  funext a b
  unfold numM
  rw [← h3]
  by_cases e : a = 0
  · subst e
    by_cases e10 : b = 10
    · subst e10; rw [mset_eq]
    · rw [mset_ne (fun q => e10 q.2)]
      by_cases e9 : b = 9
      · subst e9; rw [mset_eq]
      · rw [mset_ne (fun q => e9 q.2)]
        by_cases e8 : b = 8
        · subst e8; rw [mset_eq]
        · rw [mset_ne (fun q => e8 q.2)]; exact h2 b e8 e9 e10
  · rw [mset_nk e, mset_nk e, mset_nk e, h1 a e]
/-- what holds of the fields of reading -/
def RdOk (m : Mem) : Prop := (0 ≤ m 0 7 ∧ m 0 7 ≤ 400) ∧ (0 ≤ m 0 8 ∧ m 0 8 ≤ 400) ∧ (-1 ≤ m 0 9 ∧ m 0 9 ≤ 4000) ∧ (0 ≤ m 0 10 ∧ m 0 10 ≤ 400)
theorem numL_bd {mem : Mem} (hT : mem 0 7 ≤ 400) : ∀ (m : Nat) {p n : Int}, (0 ≤ p ∧ p ≤ 400) → (0 ≤ n ∧ n ≤ 100000) → (0 ≤ (numL mem m p n).1 ∧ (numL mem m p n).1 ≤ 400) ∧ 0 ≤ (numL mem m p n).2 ∧ (numL mem m p n).2 ≤ 100000
  | 0, p, n, hp, hn => ⟨hp, hn⟩
  | m + 1, p, n, hp, hn => by
    rw [numL_s]
    by_cases g : 48 ≤ sgn mem p ∧ sgn mem p ≤ 57
    · rw [if_pos g]
      have hlt : p < mem 0 7 := by
        by_cases q : p < mem 0 7
        · exact q
        · have e : sgn mem p = -1 := if_neg q
          omega
      exact numL_bd hT m (by omega) (by omega)
    · rw [if_neg g]; exact ⟨hp, hn⟩
theorem numR_bd {mem : Mem} (h : RdOk mem) (lo hi : Int) : (0 ≤ (numR mem lo hi).1 ∧ (numR mem lo hi).1 ≤ 100000) ∧ (0 ≤ (numR mem lo hi).2.1 ∧ (numR mem lo hi).2.1 ≤ 400) ∧ (-1 ≤ (numR mem lo hi).2.2.1 ∧ (numR mem lo hi).2.2.1 ≤ 4000) ∧ (0 ≤ (numR mem lo hi).2.2.2 ∧ (numR mem lo hi).2.2.2 ≤ 400) := by
  obtain ⟨h7, h8, h9, h10⟩ := h
  have hs := skipF_bd (mem := mem) h7.2 401 h8
  have hl := numL_bd (mem := mem) h7.2 401 (p := skipF mem 401 (mem 0 8)) (n := 0) (by omega) (by omega)
  unfold numR
  by_cases a : mem 0 9 ≠ -1
  · rw [if_pos a]; exact ⟨show (0 : Int) ≤ 0 ∧ (0 : Int) ≤ 100000 by decide, h8, h9, h10⟩
  · rw [if_neg a]
    by_cases b : 48 ≤ sgn mem (skipF mem 401 (mem 0 8)) ∧ sgn mem (skipF mem 401 (mem 0 8)) ≤ 57
    · rw [if_pos b]
      refine ⟨hl.2, hl.1, ?_, by show 0 ≤ skipF mem 401 (mem 0 8) ∧ skipF mem 401 (mem 0 8) ≤ 400; omega⟩
      show -1 ≤ (if _ then (-1 : Int) else 8 * skipF mem 401 (mem 0 8) + 2) ∧ (if _ then (-1 : Int) else 8 * skipF mem 401 (mem 0 8) + 2) ≤ 4000
      have hj : -1 ≤ 8 * skipF mem 401 (mem 0 8) + 2 ∧ 8 * skipF mem 401 (mem 0 8) + 2 ≤ 4000 := by omega
      split
      · exact ⟨by decide, by decide⟩
      · exact hj
    · rw [if_neg b]
      refine ⟨show (0 : Int) ≤ 0 ∧ (0 : Int) ≤ 100000 by decide, ?_, ?_, h10⟩
      · show 0 ≤ skipF mem 401 (mem 0 8) ∧ skipF mem 401 (mem 0 8) ≤ 400
        omega
      · show -1 ≤ 8 * skipF mem 401 (mem 0 8) + 1 ∧ 8 * skipF mem 401 (mem 0 8) + 1 ≤ 4000
        omega
theorem numM_at (mem : Mem) (lo hi : Int) : (∀ a, a ≠ 0 → numM mem lo hi a = mem a) ∧ (∀ j, j ≠ 8 → j ≠ 9 → j ≠ 10 → numM mem lo hi 0 j = mem 0 j) ∧ numM mem lo hi 0 8 = (numR mem lo hi).2.1 ∧ numM mem lo hi 0 9 = (numR mem lo hi).2.2.1 ∧ numM mem lo hi 0 10 = (numR mem lo hi).2.2.2 := by
  unfold numM
  refine ⟨fun a ha => by rw [mset_nka ha, mset_nka ha, mset_nka ha], fun j h8 h9 h10 => by rw [mset_ne (fun q => h10 q.2), mset_ne (fun q => h9 q.2), mset_ne (fun q => h8 q.2)], ?_, ?_, mset_eq _ _ _ _⟩
  · rw [mset_ne (by decide), mset_ne (by decide), mset_eq]
  · rw [mset_ne (by decide), mset_eq]
theorem numM_ok {mem : Mem} (h : RdOk mem) (lo hi : Int) : RdOk (numM mem lo hi) := by
  obtain ⟨e1, e2, e3, e4, e5⟩ := numM_at mem lo hi
  obtain ⟨b1, b2, b3, b4⟩ := numR_bd h lo hi
  exact ⟨by rw [e2 7 (by decide) (by decide) (by decide)]; exact h.1, by rw [e3]; exact b2, by rw [e4]; exact b3, by rw [e5]; exact b4⟩
/-- a fault told at a place -/
def flM (mem : Mem) (k p : Int) : Mem := if mem 0 9 = -1 then mset mem 0 9 (8 * p + k) else mem
theorem flM_ok {mem : Mem} {k p : Int} (h : RdOk mem) (hk : 0 ≤ k ∧ k ≤ 4) (hp : 0 ≤ p ∧ p ≤ 400) : RdOk (flM mem k p) := by
  unfold flM
  split
  · obtain ⟨h7, h8, h9, h10⟩ := h
    exact ⟨by rw [mset_ne (by decide)]; exact h7, by rw [mset_ne (by decide)]; exact h8, by rw [mset_eq]; omega, by rw [mset_ne (by decide)]; exact h10⟩
  · exact h
theorem flM_cell {mem : Mem} {k p : Int} {a : Nat} (h : a ≠ 0) : flM mem k p a = mem a := by
  unfold flM
  split
  · exact mset_nka h
  · rfl
/-- a row read from a place of what is heard on, so many numbers, as long as nothing is wrong -/
def rowL (s : Nat) (l : Int) : Nat → Nat → Mem → Mem
  | 0, _, m => m
  | c + 1, i, m => if m 0 9 = -1 then rowL s l c (i + 1) (mset (numM m l 99) 2 (s + i) (numR m l 99).1) else m
theorem rowL_s (s : Nat) (l : Int) (c i : Nat) (m : Mem) : rowL s l (c + 1) i m = if m 0 9 = -1 then rowL s l c (i + 1) (mset (numM m l 99) 2 (s + i) (numR m l 99).1) else m := rfl
def readRowM (mem : Mem) (r : Nat) (p : Int) (s : Nat) (l : Int) : Mem := rowL s l (mem 2 0).toNat 0 (mset (if mem 7 r ≠ 0 then flM mem 3 p else mem) 7 r 1)
theorem dX8_readsRow_0 : decode cX8_readsRow 0 = .ok (.aload_n 0, 1) := by decide +kernel
theorem dX8_readsRow_1 : decode cX8_readsRow 1 = .ok (.getfield 30, 3) := by decide +kernel
theorem dX8_readsRow_4 : decode cX8_readsRow 4 = .ok (.iload_n 1, 1) := by decide +kernel
theorem dX8_readsRow_5 : decode cX8_readsRow 5 = .ok (.baload, 1) := by decide +kernel
theorem dX8_readsRow_6 : decode cX8_readsRow 6 = .ok (.ifCond .eq 9, 3) := by decide +kernel
theorem dX8_readsRow_9 : decode cX8_readsRow 9 = .ok (.aload_n 0, 1) := by decide +kernel
theorem dX8_readsRow_10 : decode cX8_readsRow 10 = .ok (.iconst 3, 1) := by decide +kernel
theorem dX8_readsRow_11 : decode cX8_readsRow 11 = .ok (.iload_n 2, 1) := by decide +kernel
theorem dX8_readsRow_12 : decode cX8_readsRow 12 = .ok (.invokevirtual 120, 3) := by decide +kernel
theorem dX8_readsRow_15 : decode cX8_readsRow 15 = .ok (.aload_n 0, 1) := by decide +kernel
theorem dX8_readsRow_16 : decode cX8_readsRow 16 = .ok (.getfield 30, 3) := by decide +kernel
theorem dX8_readsRow_19 : decode cX8_readsRow 19 = .ok (.iload_n 1, 1) := by decide +kernel
theorem dX8_readsRow_20 : decode cX8_readsRow 20 = .ok (.iconst 1, 1) := by decide +kernel
theorem dX8_readsRow_21 : decode cX8_readsRow 21 = .ok (.bastore, 1) := by decide +kernel
theorem dX8_readsRow_22 : decode cX8_readsRow 22 = .ok (.iconst 0, 1) := by decide +kernel
theorem dX8_readsRow_23 : decode cX8_readsRow 23 = .ok (.istore 5, 2) := by decide +kernel
theorem dX8_readsRow_25 : decode cX8_readsRow 25 = .ok (.iload 5, 2) := by decide +kernel
theorem dX8_readsRow_27 : decode cX8_readsRow 27 = .ok (.aload_n 0, 1) := by decide +kernel
theorem dX8_readsRow_28 : decode cX8_readsRow 28 = .ok (.getfield 13, 3) := by decide +kernel
theorem dX8_readsRow_31 : decode cX8_readsRow 31 = .ok (.iconst 0, 1) := by decide +kernel
theorem dX8_readsRow_32 : decode cX8_readsRow 32 = .ok (.iaload, 1) := by decide +kernel
theorem dX8_readsRow_33 : decode cX8_readsRow 33 = .ok (.if_icmp .ge 33, 3) := by decide +kernel
theorem dX8_readsRow_36 : decode cX8_readsRow 36 = .ok (.aload_n 0, 1) := by decide +kernel
theorem dX8_readsRow_37 : decode cX8_readsRow 37 = .ok (.invokevirtual 89, 3) := by decide +kernel
theorem dX8_readsRow_40 : decode cX8_readsRow 40 = .ok (.ifCond .eq 26, 3) := by decide +kernel
theorem dX8_readsRow_43 : decode cX8_readsRow 43 = .ok (.aload_n 0, 1) := by decide +kernel
theorem dX8_readsRow_44 : decode cX8_readsRow 44 = .ok (.getfield 13, 3) := by decide +kernel
theorem dX8_readsRow_47 : decode cX8_readsRow 47 = .ok (.iload_n 3, 1) := by decide +kernel
theorem dX8_readsRow_48 : decode cX8_readsRow 48 = .ok (.iload 5, 2) := by decide +kernel
theorem dX8_readsRow_50 : decode cX8_readsRow 50 = .ok (.iadd, 1) := by decide +kernel
theorem dX8_readsRow_51 : decode cX8_readsRow 51 = .ok (.aload_n 0, 1) := by decide +kernel
theorem dX8_readsRow_52 : decode cX8_readsRow 52 = .ok (.iload 4, 2) := by decide +kernel
theorem dX8_readsRow_54 : decode cX8_readsRow 54 = .ok (.bipush 99, 2) := by decide +kernel
theorem dX8_readsRow_56 : decode cX8_readsRow 56 = .ok (.invokevirtual 134, 3) := by decide +kernel
theorem dX8_readsRow_59 : decode cX8_readsRow 59 = .ok (.iastore, 1) := by decide +kernel
theorem dX8_readsRow_60 : decode cX8_readsRow 60 = .ok (.iinc 5 1, 3) := by decide +kernel
theorem dX8_readsRow_63 : decode cX8_readsRow 63 = .ok (.goto (-38), 3) := by decide +kernel
theorem dX8_readsRow_66 : decode cX8_readsRow 66 = .ok (.return_, 1) := by decide +kernel
set_option maxHeartbeats 4000000 in
set_option maxRecDepth 100000 in
theorem m_X8_readsRow (l : Launch) (r : Int) (p : Int) (s : Int) (b : Int) (mem : Mem) (hr : 0 ≤ r ∧ r ≤ 3) (hp : 0 ≤ p ∧ p ≤ 400) (hs : 1 ≤ s ∧ s ≤ 400) (hb : 0 ≤ b ∧ b ≤ 1) (hRd : RdOk mem) (hN : 0 ≤ mem 2 0 ∧ mem 2 0 ≤ 8) (hTo : ∀ k : Nat, mem 7 k = 0 ∨ mem 7 k = 1) : Ret shp l yX8_readsRow cX8_readsRow 6 none 4 [pR 0, pI r, pI p, pI s, pI b] mem (fun rv mv => rv = none ∧ mv = readRowM mem r.toNat p s.toNat b) := by
  refine ret_of (by decide +kernel) (Nat.le_of_ble_eq_true rfl) (fun X hX F G => ?_)
  show Ok shp X 6 0 [(0, pR 0), (1, pI r), (2, pI p), (3, pI s), (4, pI b)] [] mem
  have hto := hTo r.toNat
  refine ok_aload_n F dX8_readsRow_0 0 rfl ?_
  refine ok_getr F dX8_readsRow_1 kF_X8_30 sh_0 rfl ?_
  refine ok_iload_n F dX8_readsRow_4 1 rfl ?_
  refine ok_zald (v := mem 7 r.toNat) F dX8_readsRow_5 sh_7 (by first | decide | assumption) (by omega) (by omega) rfl ?_
  refine ok_if_eq F 15 dX8_readsRow_6 (by decide) (by omega) (fun c_1 => ?_) (fun c_1 => ?_)
  · refine ok_aload_n F dX8_readsRow_15 0 rfl ?_
    refine ok_getr F dX8_readsRow_16 kF_X8_30 sh_0 rfl ?_
    refine ok_iload_n F dX8_readsRow_19 1 rfl ?_
    refine ok_iconst F dX8_readsRow_20 ?_
    refine ok_zast F dX8_readsRow_21 sh_7 (by first | decide | assumption) (by omega) (by omega) (rfl) (fun m_2 e_3 => ?_)
    refine ok_iconst F dX8_readsRow_22 ?_
    refine ok_istore (lv' := [(5, pI 0), (0, pR 0), (1, pI r), (2, pI p), (3, pI s), (4, pI b)]) F dX8_readsRow_23 (by decide) rfl ?_
    have hL_25 : ∀ (n_25 : Nat) (i : Int) (m : Mem), (0 ≤ i ∧ i ≤ mem 2 0 ∧ RdOk m ∧ m 2 0 = mem 2 0 ∧ readRowM mem r.toNat p s.toNat b = rowL s.toNat b (mem 2 0 - i).toNat i.toNat m) → (mem 2 0 - i).toNat = n_25 → Ok shp X 6 25 [(0, pR 0), (1, pI r), (2, pI p), (3, pI s), (4, pI b), (5, pI i)] [] m := by
      intro n_25
      induction n_25 using Nat.strongRecOn with
      | _ n_25 ih_25 =>
        intro i m hI_25 hn_25
        obtain ⟨hi0, hi1, hR, hn, hE⟩ := hI_25
        refine ok_iload F dX8_readsRow_25 5 rfl ?_
        refine ok_aload_n F dX8_readsRow_27 0 rfl ?_
        refine ok_getr F dX8_readsRow_28 kF_X8_13 sh_0 rfl ?_
        refine ok_iconst F dX8_readsRow_31 ?_
        refine ok_iald (v := m 2 0) F dX8_readsRow_32 sh_2 (by first | decide | assumption) (by omega) (by omega) rfl ?_
        refine ok_icmp_ge F 66 dX8_readsRow_33 (by decide) (by omega) (by omega) (fun c_4 => ?_) (fun c_4 => ?_)
        · refine ok_vret F G dX8_readsRow_66 ?_
          refine ⟨rfl, ?_⟩
          first
            | (rw [hE, show (mem 2 0 - i).toNat = 0 by omega]; rfl)
            | (rw [hE, show (mem 2 0 - i).toNat = (mem 2 0 - (i + 1)).toNat + 1 by omega, rowL_s, if_neg (by omega)])
        · refine ok_aload_n F dX8_readsRow_36 0 rfl ?_
          refine ok_callv F [] dX8_readsRow_37 kM_X8_isRight kI_X8_isRight kV_X8_isRight kL_X8_89 (ci := 8) rfl sh_0 rfl (by decide) (Nat.le_of_ble_eq_true rfl) rfl (m_X8_isRight _ m (by have := hR.2.2.1; omega)) ?_
          rintro _ _ ⟨rfl, rfl⟩
          refine ok_if_eq F 66 dX8_readsRow_40 (by decide) (by omega) (fun c_5 => ?_) (fun c_5 => ?_)
          · refine ok_vret F G dX8_readsRow_66 ?_
            refine ⟨rfl, ?_⟩
            first
              | (rw [hE, show (mem 2 0 - i).toNat = 0 by omega]; rfl)
              | (rw [hE, show (mem 2 0 - i).toNat = (mem 2 0 - (i + 1)).toNat + 1 by omega, rowL_s, if_neg (by omega)])
          · refine ok_aload_n F dX8_readsRow_43 0 rfl ?_
            refine ok_getr F dX8_readsRow_44 kF_X8_13 sh_0 rfl ?_
            refine ok_iload_n F dX8_readsRow_47 3 rfl ?_
            refine ok_iload F dX8_readsRow_48 5 rfl ?_
            refine ok_iadd F dX8_readsRow_50 ?_
            refine ok_aload_n F dX8_readsRow_51 0 rfl ?_
            refine ok_iload F dX8_readsRow_52 4 rfl ?_
            refine ok_bipush F dX8_readsRow_54 rfl ?_
            refine ok_callv F [pI b, pI 99] dX8_readsRow_56 kM_X8_number kI_X8_number kV_X8_number kL_X8_134 (ci := 8) rfl sh_0 rfl (by decide) (Nat.le_of_ble_eq_true rfl) rfl (m_X8_number _ b 99 m (by omega) (by omega) (hR.1) (hR.2.1) (by have := hR.2.2.1; omega)) ?_
            rintro _ m_7 ⟨z_6, rfl, r_8⟩
            obtain ⟨r1, r2, r3⟩ := id r_8
            obtain ⟨z1, z2⟩ := numM_of r1 r2 r3
            refine ok_iast F dX8_readsRow_59 sh_2 (by first | decide | assumption) (by omega) (by omega) (fun m_9 e_10 => ?_)
            refine ok_iinc (lv' := [(5, pI (i + 1)), (0, pR 0), (1, pI r), (2, pI p), (3, pI s), (4, pI b)]) F dX8_readsRow_60 5 rfl (by decide) rfl ?_
            refine ok_goto F 25 dX8_readsRow_63 (by decide) ?_
            refine ok_lvp [1, 2, 3, 4, 5, 0] (lv' := [(0, pR 0), (1, pI r), (2, pI p), (3, pI s), (4, pI b), (5, pI (i + 1))]) rfl ?_
            refine ih_25 _ ?_ (i + 1) m_9 ?_ rfl
            · omega
            · have hf : m 0 9 = -1 := by omega
              have hx := numM_ok hR b 99
              have h0 : m_9 0 = numM m b 99 0 := by rw [e_10, mset_nka (by decide), z2]
              refine ⟨by omega, by omega, by unfold RdOk at hx ⊢; rw [h0]; exact hx, by rw [e_10, mset_ne (by omega), z2, (numM_at m b 99).1 2 (by decide)]; exact hn, ?_⟩
              rw [hE, show (mem 2 0 - i).toNat = (mem 2 0 - (i + 1)).toNat + 1 by omega, rowL_s, if_pos hf, show (i + 1).toNat = i.toNat + 1 by omega, e_10, z1, z2, show (s + i).toNat = s.toNat + i.toNat by omega]
    refine ok_lvp [1, 2, 3, 4, 5, 0] (lv' := [(0, pR 0), (1, pI r), (2, pI p), (3, pI s), (4, pI b), (5, pI 0)]) rfl ?_
    refine hL_25 _ 0 m_2 ?_ rfl
    have hm0 : m_2 = mset (if mem 7 r.toNat ≠ 0 then flM mem 3 p else mem) 7 r.toNat 1 := by
      first
        | (rw [e_3, if_neg (by omega)]; done)
        | (rw [e_3, if_pos (by omega), eF]; rfl)
    have h0 : m_2 0 = (if mem 7 r.toNat ≠ 0 then flM mem 3 p else mem) 0 := by rw [hm0]; exact mset_nka (by decide)
    have hx : RdOk (if mem 7 r.toNat ≠ 0 then flM mem 3 p else mem) := by
      by_cases y : mem 7 r.toNat ≠ 0
      · rw [if_pos y]; exact flM_ok hRd (by omega) hp
      · rw [if_neg y]; exact hRd
    have hok : RdOk m_2 := by unfold RdOk at hx ⊢; rw [h0]; exact hx
    refine ⟨by omega, by omega, hok, ?_, by rw [Int.sub_zero, hm0]; rfl⟩
    rw [hm0, mset_nk (by decide)]
    by_cases y : mem 7 r.toNat ≠ 0
    · rw [if_pos y, flM_cell (by decide)]
    · rw [if_neg y]
  · refine ok_aload_n F dX8_readsRow_9 0 rfl ?_
    refine ok_iconst F dX8_readsRow_10 ?_
    refine ok_iload_n F dX8_readsRow_11 2 rfl ?_
    refine ok_callv F [pI 3, pI p] dX8_readsRow_12 kM_X8_fails kI_X8_fails kV_X8_fails kL_X8_120 (ci := 8) rfl sh_0 rfl (by decide) (Nat.le_of_ble_eq_true rfl) rfl (m_X8_fails _ 3 p mem (by have := hRd.2.2.1; omega)) ?_
    rintro _ m_11 ⟨rfl, e_12⟩
    have eF := e_12
    refine ok_aload_n F dX8_readsRow_15 0 rfl ?_
    refine ok_getr F dX8_readsRow_16 kF_X8_30 sh_0 rfl ?_
    refine ok_iload_n F dX8_readsRow_19 1 rfl ?_
    refine ok_iconst F dX8_readsRow_20 ?_
    refine ok_zast F dX8_readsRow_21 sh_7 (by first | decide | assumption) (by omega) (by omega) (rfl) (fun m_13 e_14 => ?_)
    refine ok_iconst F dX8_readsRow_22 ?_
    refine ok_istore (lv' := [(5, pI 0), (0, pR 0), (1, pI r), (2, pI p), (3, pI s), (4, pI b)]) F dX8_readsRow_23 (by decide) rfl ?_
    have hL_25 : ∀ (n_25 : Nat) (i : Int) (m : Mem), (0 ≤ i ∧ i ≤ mem 2 0 ∧ RdOk m ∧ m 2 0 = mem 2 0 ∧ readRowM mem r.toNat p s.toNat b = rowL s.toNat b (mem 2 0 - i).toNat i.toNat m) → (mem 2 0 - i).toNat = n_25 → Ok shp X 6 25 [(0, pR 0), (1, pI r), (2, pI p), (3, pI s), (4, pI b), (5, pI i)] [] m := by
      intro n_25
      induction n_25 using Nat.strongRecOn with
      | _ n_25 ih_25 =>
        intro i m hI_25 hn_25
        obtain ⟨hi0, hi1, hR, hn, hE⟩ := hI_25
        refine ok_iload F dX8_readsRow_25 5 rfl ?_
        refine ok_aload_n F dX8_readsRow_27 0 rfl ?_
        refine ok_getr F dX8_readsRow_28 kF_X8_13 sh_0 rfl ?_
        refine ok_iconst F dX8_readsRow_31 ?_
        refine ok_iald (v := m 2 0) F dX8_readsRow_32 sh_2 (by first | decide | assumption) (by omega) (by omega) rfl ?_
        refine ok_icmp_ge F 66 dX8_readsRow_33 (by decide) (by omega) (by omega) (fun c_15 => ?_) (fun c_15 => ?_)
        · refine ok_vret F G dX8_readsRow_66 ?_
          refine ⟨rfl, ?_⟩
          first
            | (rw [hE, show (mem 2 0 - i).toNat = 0 by omega]; rfl)
            | (rw [hE, show (mem 2 0 - i).toNat = (mem 2 0 - (i + 1)).toNat + 1 by omega, rowL_s, if_neg (by omega)])
        · refine ok_aload_n F dX8_readsRow_36 0 rfl ?_
          refine ok_callv F [] dX8_readsRow_37 kM_X8_isRight kI_X8_isRight kV_X8_isRight kL_X8_89 (ci := 8) rfl sh_0 rfl (by decide) (Nat.le_of_ble_eq_true rfl) rfl (m_X8_isRight _ m (by have := hR.2.2.1; omega)) ?_
          rintro _ _ ⟨rfl, rfl⟩
          refine ok_if_eq F 66 dX8_readsRow_40 (by decide) (by omega) (fun c_16 => ?_) (fun c_16 => ?_)
          · refine ok_vret F G dX8_readsRow_66 ?_
            refine ⟨rfl, ?_⟩
            first
              | (rw [hE, show (mem 2 0 - i).toNat = 0 by omega]; rfl)
              | (rw [hE, show (mem 2 0 - i).toNat = (mem 2 0 - (i + 1)).toNat + 1 by omega, rowL_s, if_neg (by omega)])
          · refine ok_aload_n F dX8_readsRow_43 0 rfl ?_
            refine ok_getr F dX8_readsRow_44 kF_X8_13 sh_0 rfl ?_
            refine ok_iload_n F dX8_readsRow_47 3 rfl ?_
            refine ok_iload F dX8_readsRow_48 5 rfl ?_
            refine ok_iadd F dX8_readsRow_50 ?_
            refine ok_aload_n F dX8_readsRow_51 0 rfl ?_
            refine ok_iload F dX8_readsRow_52 4 rfl ?_
            refine ok_bipush F dX8_readsRow_54 rfl ?_
            refine ok_callv F [pI b, pI 99] dX8_readsRow_56 kM_X8_number kI_X8_number kV_X8_number kL_X8_134 (ci := 8) rfl sh_0 rfl (by decide) (Nat.le_of_ble_eq_true rfl) rfl (m_X8_number _ b 99 m (by omega) (by omega) (hR.1) (hR.2.1) (by have := hR.2.2.1; omega)) ?_
            rintro _ m_18 ⟨z_17, rfl, r_19⟩
            obtain ⟨r1, r2, r3⟩ := id r_19
            obtain ⟨z1, z2⟩ := numM_of r1 r2 r3
            refine ok_iast F dX8_readsRow_59 sh_2 (by first | decide | assumption) (by omega) (by omega) (fun m_20 e_21 => ?_)
            refine ok_iinc (lv' := [(5, pI (i + 1)), (0, pR 0), (1, pI r), (2, pI p), (3, pI s), (4, pI b)]) F dX8_readsRow_60 5 rfl (by decide) rfl ?_
            refine ok_goto F 25 dX8_readsRow_63 (by decide) ?_
            refine ok_lvp [1, 2, 3, 4, 5, 0] (lv' := [(0, pR 0), (1, pI r), (2, pI p), (3, pI s), (4, pI b), (5, pI (i + 1))]) rfl ?_
            refine ih_25 _ ?_ (i + 1) m_20 ?_ rfl
            · omega
            · have hf : m 0 9 = -1 := by omega
              have hx := numM_ok hR b 99
              have h0 : m_20 0 = numM m b 99 0 := by rw [e_21, mset_nka (by decide), z2]
              refine ⟨by omega, by omega, by unfold RdOk at hx ⊢; rw [h0]; exact hx, by rw [e_21, mset_ne (by omega), z2, (numM_at m b 99).1 2 (by decide)]; exact hn, ?_⟩
              rw [hE, show (mem 2 0 - i).toNat = (mem 2 0 - (i + 1)).toNat + 1 by omega, rowL_s, if_pos hf, show (i + 1).toNat = i.toNat + 1 by omega, e_21, z1, z2, show (s + i).toNat = s.toNat + i.toNat by omega]
    refine ok_lvp [1, 2, 3, 4, 5, 0] (lv' := [(0, pR 0), (1, pI r), (2, pI p), (3, pI s), (4, pI b), (5, pI 0)]) rfl ?_
    refine hL_25 _ 0 m_13 ?_ rfl
    have hm0 : m_13 = mset (if mem 7 r.toNat ≠ 0 then flM mem 3 p else mem) 7 r.toNat 1 := by
      first
        | (rw [e_14, if_neg (by omega)]; done)
        | (rw [e_14, if_pos (by omega), eF]; rfl)
    have h0 : m_13 0 = (if mem 7 r.toNat ≠ 0 then flM mem 3 p else mem) 0 := by rw [hm0]; exact mset_nka (by decide)
    have hx : RdOk (if mem 7 r.toNat ≠ 0 then flM mem 3 p else mem) := by
      by_cases y : mem 7 r.toNat ≠ 0
      · rw [if_pos y]; exact flM_ok hRd (by omega) hp
      · rw [if_neg y]; exact hRd
    have hok : RdOk m_13 := by unfold RdOk at hx ⊢; rw [h0]; exact hx
    refine ⟨by omega, by omega, hok, ?_, by rw [Int.sub_zero, hm0]; rfl⟩
    rw [hm0, mset_nk (by decide)]
    by_cases y : mem 7 r.toNat ≠ 0
    · rw [if_pos y, flM_cell (by decide)]
    · rw [if_neg y]
