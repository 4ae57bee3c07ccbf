/-! the reference: a part read -/
theorem skipF_end {mem : Mem} (hT : mem 0 7 ≤ 400) : ∀ (n : Nat) (p : Int), 0 ≤ p → 401 ≤ n + p → sgn mem (skipF mem n p) ≠ 32
  | 0, p, h0, h1 => by
    have e : sgn mem p = -1 := if_neg (by omega)
    show sgn mem p ≠ 32
    rw [e]; decide
  | n + 1, p, h0, h1 => by
    rw [skipF_s]
    by_cases g : sgn mem p = 32
    · rw [if_pos g]; exact skipF_end hT n (p + 1) (by omega) (by omega)
    · rw [if_neg g]; exact g
theorem skipF_id {mem : Mem} (hT : mem 0 7 ≤ 400) {p : Int} (hp : 0 ≤ p) : skipF mem 401 (skipF mem 401 p) = skipF mem 401 p := by
  have h := skipF_end hT 401 p hp (by omega)
  rw [skipF_s mem 400 (skipF mem 401 p), if_neg h]
theorem skipF_of {m mem : Mem} (h6 : m 6 = mem 6) (h7 : m 0 7 = mem 0 7) : ∀ (n : Nat) (p : Int), skipF m n p = skipF mem n p
  | 0, p => rfl
  | n + 1, p => by rw [skipF_s, skipF_s, sgn_of h6 h7, skipF_of h6 h7 n]
def spB (mem : Mem) (p n : Int) (w : Nat) : Bool := decide (n = ((sLen.getD w 0 : Nat) : Int)) && (List.range n.toNat).all (fun j => decide (mem 6 (p + (j : Nat)).toNat = (((sTx w).getD j 0 : Nat) : Int)))
theorem spB_iff {mem : Mem} {p n : Int} {w : Nat} : spB mem p n w = true ↔ spelT mem p n w := by
  unfold spB spelT
  rw [Bool.and_eq_true, decide_eq_true_eq, List.all_eq_true]
  constructor
  · rintro ⟨h1, h2⟩
    refine ⟨h1, fun j hj => ?_⟩
    have := h2 j (List.mem_range.mpr (by omega))
    exact of_decide_eq_true this
  · rintro ⟨h1, h2⟩
    refine ⟨h1, fun j hj => ?_⟩
    have := List.mem_range.mp hj
    exact decide_eq_true (h2 j (by omega))
def ptP (m : Mem) : Int := skipF m 401 (m 0 8)
def ptD (m : Mem) : Mem := mset m 0 8 (ptP m)
def ptN (m : Mem) : Int := letN (ptD m) 401 (ptP m)
def ptW (m : Mem) (w : Nat) : Bool := spB (ptD m) (ptP m) (ptN m) w
def ptT (m : Mem) : Mem := mset (ptD m) 0 8 (ptP m + ptN m)
def dayM (m : Mem) (p : Int) : Mem := mset (if m 2 1 = 5 then flM m 3 p else m) 2 1 (m 2 1 + 1)
def partM (m : Mem) : Mem := if ptW m 1 = true then readRowM (ptT m) 0 (ptP m) 11 0 else if ptW m 2 = true then readRowM (ptT m) 1 (ptP m) 19 0 else if ptW m 3 = true then readRowM (ptT m) 2 (ptP m) 27 0 else if ptW m 4 = true then readRowM (ptT m) 3 (ptP m) 35 1 else if ptW m 5 = true then dayM (ptT m) (ptP m) else if ptW m 6 = true then saleM (ptT m) (ptP m) else flM (ptD m) 1 (ptP m)
theorem letN_bd {mem : Mem} (hT : mem 0 7 ≤ 400) : ∀ (n : Nat) (p : Int), p ≤ 400 → 0 ≤ letN mem n p ∧ p + letN mem n p ≤ 400
  | 0, p, h => by show 0 ≤ (0 : Int) ∧ p + (0 : Int) ≤ 400; omega
  | n + 1, p, h => by
    rw [letN_s]
    by_cases g : p < mem 0 7 ∧ 97 ≤ mem 6 p.toNat ∧ mem 6 p.toNat ≤ 122
    · rw [if_pos g]
      have := letN_bd hT n (p + 1) (by omega)
      omega
    · rw [if_neg g]; omega
theorem pt_ok {m : Mem} (h : RdOk m) : RdOk (ptD m) ∧ RdOk (ptT m) ∧ (0 ≤ ptP m ∧ ptP m ≤ 400) ∧ (∀ a, a ≠ 0 → ptD m a = m a) ∧ (∀ a, a ≠ 0 → ptT m a = m a) ∧ ptD m 0 8 = ptP m ∧ skipF (ptD m) 401 (ptD m 0 8) = ptD m 0 8 ∧ m 0 8 ≤ ptP m ∧ 0 ≤ ptN m ∧ ptD m 0 9 = m 0 9 ∧ ptT m 0 9 = m 0 9 := by
  obtain ⟨h7, h8, h9, h10⟩ := h
  have hs := skipF_bd (mem := m) h7.2 401 h8
  have e7 : ptD m 0 7 = m 0 7 := mset_ne (by decide)
  have e8 : ptD m 0 8 = ptP m := mset_eq _ _ _ _
  have hl := letN_bd (mem := ptD m) (by rw [e7]; exact h7.2) 401 (ptP m) (by unfold ptP; omega)
  have hP : ptP m = skipF m 401 (m 0 8) := rfl
  have hN : ptN m = letN (ptD m) 401 (ptP m) := rfl
  refine ⟨⟨by rw [e7]; exact h7, by rw [e8]; omega, by unfold ptD; rw [mset_ne (by decide)]; exact h9, by unfold ptD; rw [mset_ne (by decide)]; exact h10⟩, ⟨by unfold ptT; rw [mset_ne (by decide), e7]; exact h7, by unfold ptT; rw [mset_eq]; omega, by unfold ptT ptD; rw [mset_ne (by decide), mset_ne (by decide)]; exact h9, by unfold ptT ptD; rw [mset_ne (by decide), mset_ne (by decide)]; exact h10⟩, by omega, fun a ha => mset_nka ha, fun a ha => by unfold ptT ptD; rw [mset_nka ha, mset_nka ha], e8, ?_, by omega, by omega, by unfold ptD; exact mset_ne (by decide), by unfold ptT ptD; rw [mset_ne (by decide), mset_ne (by decide)]⟩
  rw [e8, skipF_of (m := ptD m) (mem := m) (mset_nka (by decide)) e7, hP]
  exact skipF_id h7.2 h8.1
theorem tkS {m mv dd : Mem} {w : Nat} {z : Int} (vd : m = dd) (hid : skipF dd 401 (dd 0 8) = dd 0 8) (h : spelT m (skipF m 401 (m 0 8)) (letN m 401 (skipF m 401 (m 0 8))) w ∧ z = 1 ∧ mv = mset m 0 8 (skipF m 401 (m 0 8) + letN m 401 (skipF m 401 (m 0 8))) ∨ ¬ spelT m (skipF m 401 (m 0 8)) (letN m 401 (skipF m 401 (m 0 8))) w ∧ z = 0 ∧ mv = mset m 0 8 (skipF m 401 (m 0 8))) : spB dd (dd 0 8) (letN dd 401 (dd 0 8)) w = true ∧ z = 1 ∧ mv = mset dd 0 8 (dd 0 8 + letN dd 401 (dd 0 8)) ∨ spB dd (dd 0 8) (letN dd 401 (dd 0 8)) w = false ∧ z = 0 ∧ mv = dd := by
  subst vd
  rw [hid] at h
  rcases h with ⟨h1, h2, h3⟩ | ⟨h1, h2, h3⟩
  · exact Or.inl ⟨spB_iff.mpr h1, h2, h3⟩
  · refine Or.inr ⟨?_, h2, by rw [h3, mset_self]⟩
    cases q : spB m (m 0 8) (letN m 401 (m 0 8)) w
    · rfl
    · exact absurd (spB_iff.mp q) h1
theorem rowL_ok (s : Nat) (l : Int) (hs : 11 ≤ s) : ∀ (c i : Nat) (m : Mem), RdOk m → RdOk (rowL s l c i m) ∧ (∀ k : Nat, k < 11 → rowL s l c i m 2 k = m 2 k) ∧ (∀ B : Int, 100000 ≤ B → (∀ k : Nat, 0 ≤ m 2 k ∧ m 2 k ≤ B) → ∀ k : Nat, 0 ≤ rowL s l c i m 2 k ∧ rowL s l c i m 2 k ≤ B) ∧ ∀ a, a ≠ 0 → a ≠ 2 → rowL s l c i m a = m a
  | 0, i, m, h => ⟨h, fun _ _ => rfl, fun _ _ hB => hB, fun _ _ _ => rfl⟩
  | c + 1, i, m, h => by
    rw [rowL_s]
    by_cases g : m 0 9 = -1
    · rw [if_pos g]
      have hn := numM_ok h l 99
      have ha := (numM_at m l 99).1
      have hb := (numR_bd h l 99).1
      have e0 : mset (numM m l 99) 2 (s + i) (numR m l 99).1 0 = numM m l 99 0 := mset_nka (by decide)
      obtain ⟨r1, r2, r3, r4⟩ := rowL_ok s l hs c (i + 1) _ (hn.cell e0)
      refine ⟨r1, fun k hk => by rw [r2 k hk, mset_ne (by omega), ha 2 (by decide)], fun B hB hA => r3 B hB (fun k => ?_), fun a h0 h2 => by rw [r4 a h0 h2, mset_nka h2, ha a h0]⟩
      by_cases y : k = s + i
      · rw [y, mset_eq]; omega
      · rw [mset_ne (fun q => y q.2), ha 2 (by decide)]; exact hA k
    · rw [if_neg g]; exact ⟨h, fun _ _ => rfl, fun _ _ hB => hB, fun _ _ _ => rfl⟩
theorem readRowM_ok {m : Mem} {r s : Nat} {p l : Int} (h : RdOk m) (hp : 0 ≤ p ∧ p ≤ 400) (hs : 11 ≤ s) : RdOk (readRowM m r p s l) ∧ (∀ k : Nat, k < 11 → readRowM m r p s l 2 k = m 2 k) ∧ (∀ B : Int, 100000 ≤ B → (∀ k : Nat, 0 ≤ m 2 k ∧ m 2 k ≤ B) → ∀ k : Nat, 0 ≤ readRowM m r p s l 2 k ∧ readRowM m r p s l 2 k ≤ B) ∧ (∀ a, a ≠ 0 → a ≠ 2 → a ≠ 7 → readRowM m r p s l a = m a) ∧ ((∀ k : Nat, m 7 k = 0 ∨ m 7 k = 1) → ∀ k : Nat, readRowM m r p s l 7 k = 0 ∨ readRowM m r p s l 7 k = 1) := by
  have hx : RdOk (if m 7 r ≠ 0 then flM m 3 p else m) ∧ ∀ a, a ≠ 0 → (if m 7 r ≠ 0 then flM m 3 p else m) a = m a := by
    by_cases y : m 7 r ≠ 0
    · rw [if_pos y]; exact ⟨flM_ok h (by omega) hp, fun a ha => flM_cell ha⟩
    · rw [if_neg y]; exact ⟨h, fun _ _ => rfl⟩
  obtain ⟨x1, x2⟩ := hx
  have e0 : mset (if m 7 r ≠ 0 then flM m 3 p else m) 7 r 1 0 = (if m 7 r ≠ 0 then flM m 3 p else m) 0 := mset_nka (by decide)
  have e2 : mset (if m 7 r ≠ 0 then flM m 3 p else m) 7 r 1 2 = m 2 := by rw [mset_nka (by decide), x2 2 (by decide)]
  obtain ⟨r1, r2, r3, r4⟩ := rowL_ok s l hs (m 2 0).toNat 0 _ (x1.cell e0)
  refine ⟨r1, fun k hk => by unfold readRowM; rw [r2 k hk, e2], fun B hB hA => r3 B hB (fun k => by rw [e2]; exact hA k), fun a h0 h2 h7 => by unfold readRowM; rw [r4 a h0 h2, mset_nka h7, x2 a h0], fun h7 k => ?_⟩
  unfold readRowM
  rw [r4 7 (by decide) (by decide)]
  by_cases y : k = r
  · rw [y, mset_eq]; exact Or.inr rfl
  · rw [mset_ne (fun q => y q.2), x2 7 (by decide)]; exact h7 k
theorem dayM_ok {m : Mem} {p : Int} (h : RdOk m) (hp : 0 ≤ p ∧ p ≤ 400) : RdOk (dayM m p) ∧ (∀ a, a ≠ 0 → a ≠ 2 → dayM m p a = m a) ∧ (∀ k : Nat, k ≠ 1 → dayM m p 2 k = m 2 k) ∧ dayM m p 2 1 = m 2 1 + 1 ∧ (dayM m p 0 9 = -1 → m 2 1 ≠ 5) := by
  have hx : RdOk (if m 2 1 = 5 then flM m 3 p else m) ∧ (∀ a, a ≠ 0 → (if m 2 1 = 5 then flM m 3 p else m) a = m a) ∧ ((if m 2 1 = 5 then flM m 3 p else m) 0 9 = -1 → m 2 1 ≠ 5) := by
    by_cases y : m 2 1 = 5
    · rw [if_pos y]
      refine ⟨flM_ok h (by omega) hp, fun a ha => flM_cell ha, fun e => ?_⟩
      unfold flM at e
      by_cases q : m 0 9 = -1
      · rw [if_pos q, mset_eq] at e; omega
      · rw [if_neg q] at e; exact absurd e q
    · rw [if_neg y]; exact ⟨h, fun _ _ => rfl, fun _ => y⟩
  obtain ⟨x1, x2, x3⟩ := hx
  have e0 : dayM m p 0 = (if m 2 1 = 5 then flM m 3 p else m) 0 := mset_nka (by decide)
  refine ⟨x1.cell e0, fun a h0 h2 => ?_, fun k hk => ?_, mset_eq _ _ _ _, fun e => x3 (by rw [← e0]; exact e)⟩
  · unfold dayM
    rw [mset_nka h2, x2 a h0]
  · unfold dayM
    rw [mset_ne (fun q => hk q.2), x2 2 (by decide)]
def PtOk (mem mv : Mem) : Prop := mv = partM mem ∧ RdOk mv ∧ mv 2 0 = mem 2 0 ∧ (mv 0 9 = -1 → 0 ≤ mv 2 1 ∧ mv 2 1 ≤ 5) ∧ (0 ≤ mv 2 2 ∧ mv 2 2 ≤ 40) ∧ (∀ k : Nat, 0 ≤ mv 2 k ∧ mv 2 k ≤ 100000 + 6 * mv 2 2) ∧ (∀ k : Nat, mv 7 k = 0 ∨ mv 7 k = 1) ∧ ∀ a, a ≠ 0 → a ≠ 2 → a ≠ 7 → mv a = mem a
theorem dX8_readsPart_0 : decode cX8_readsPart 0 = .ok (.aload_n 0, 1) := by decide +kernel
theorem dX8_readsPart_1 : decode cX8_readsPart 1 = .ok (.invokevirtual 93, 3) := by decide +kernel
theorem dX8_readsPart_4 : decode cX8_readsPart 4 = .ok (.pop, 1) := by decide +kernel
theorem dX8_readsPart_5 : decode cX8_readsPart 5 = .ok (.aload_n 0, 1) := by decide +kernel
theorem dX8_readsPart_6 : decode cX8_readsPart 6 = .ok (.getfield 79, 3) := by decide +kernel
theorem dX8_readsPart_9 : decode cX8_readsPart 9 = .ok (.istore_n 1, 1) := by decide +kernel
theorem dX8_readsPart_10 : decode cX8_readsPart 10 = .ok (.aload_n 0, 1) := by decide +kernel
theorem dX8_readsPart_11 : decode cX8_readsPart 11 = .ok (.ldc 145, 2) := by decide +kernel
theorem dX8_readsPart_13 : decode cX8_readsPart 13 = .ok (.invokevirtual 147, 3) := by decide +kernel
theorem dX8_readsPart_16 : decode cX8_readsPart 16 = .ok (.ifCond .eq 15, 3) := by decide +kernel
theorem dX8_readsPart_19 : decode cX8_readsPart 19 = .ok (.aload_n 0, 1) := by decide +kernel
theorem dX8_readsPart_20 : decode cX8_readsPart 20 = .ok (.iconst 0, 1) := by decide +kernel
theorem dX8_readsPart_21 : decode cX8_readsPart 21 = .ok (.iload_n 1, 1) := by decide +kernel
theorem dX8_readsPart_22 : decode cX8_readsPart 22 = .ok (.bipush 11, 2) := by decide +kernel
theorem dX8_readsPart_24 : decode cX8_readsPart 24 = .ok (.iconst 0, 1) := by decide +kernel
theorem dX8_readsPart_25 : decode cX8_readsPart 25 = .ok (.invokevirtual 151, 3) := by decide +kernel
theorem dX8_readsPart_28 : decode cX8_readsPart 28 = .ok (.goto 127, 3) := by decide +kernel
theorem dX8_readsPart_31 : decode cX8_readsPart 31 = .ok (.aload_n 0, 1) := by decide +kernel
theorem dX8_readsPart_32 : decode cX8_readsPart 32 = .ok (.ldc 155, 2) := by decide +kernel
theorem dX8_readsPart_34 : decode cX8_readsPart 34 = .ok (.invokevirtual 147, 3) := by decide +kernel
theorem dX8_readsPart_37 : decode cX8_readsPart 37 = .ok (.ifCond .eq 15, 3) := by decide +kernel
theorem dX8_readsPart_40 : decode cX8_readsPart 40 = .ok (.aload_n 0, 1) := by decide +kernel
theorem dX8_readsPart_41 : decode cX8_readsPart 41 = .ok (.iconst 1, 1) := by decide +kernel
theorem dX8_readsPart_42 : decode cX8_readsPart 42 = .ok (.iload_n 1, 1) := by decide +kernel
theorem dX8_readsPart_43 : decode cX8_readsPart 43 = .ok (.bipush 19, 2) := by decide +kernel
theorem dX8_readsPart_45 : decode cX8_readsPart 45 = .ok (.iconst 0, 1) := by decide +kernel
theorem dX8_readsPart_46 : decode cX8_readsPart 46 = .ok (.invokevirtual 151, 3) := by decide +kernel
theorem dX8_readsPart_49 : decode cX8_readsPart 49 = .ok (.goto 106, 3) := by decide +kernel
theorem dX8_readsPart_52 : decode cX8_readsPart 52 = .ok (.aload_n 0, 1) := by decide +kernel
theorem dX8_readsPart_53 : decode cX8_readsPart 53 = .ok (.ldc 157, 2) := by decide +kernel
theorem dX8_readsPart_55 : decode cX8_readsPart 55 = .ok (.invokevirtual 147, 3) := by decide +kernel
theorem dX8_readsPart_58 : decode cX8_readsPart 58 = .ok (.ifCond .eq 15, 3) := by decide +kernel
theorem dX8_readsPart_61 : decode cX8_readsPart 61 = .ok (.aload_n 0, 1) := by decide +kernel
theorem dX8_readsPart_62 : decode cX8_readsPart 62 = .ok (.iconst 2, 1) := by decide +kernel
theorem dX8_readsPart_63 : decode cX8_readsPart 63 = .ok (.iload_n 1, 1) := by decide +kernel
theorem dX8_readsPart_64 : decode cX8_readsPart 64 = .ok (.bipush 27, 2) := by decide +kernel
theorem dX8_readsPart_66 : decode cX8_readsPart 66 = .ok (.iconst 0, 1) := by decide +kernel
theorem dX8_readsPart_67 : decode cX8_readsPart 67 = .ok (.invokevirtual 151, 3) := by decide +kernel
theorem dX8_readsPart_70 : decode cX8_readsPart 70 = .ok (.goto 85, 3) := by decide +kernel
theorem dX8_readsPart_73 : decode cX8_readsPart 73 = .ok (.aload_n 0, 1) := by decide +kernel
theorem dX8_readsPart_74 : decode cX8_readsPart 74 = .ok (.ldc 159, 2) := by decide +kernel
theorem dX8_readsPart_76 : decode cX8_readsPart 76 = .ok (.invokevirtual 147, 3) := by decide +kernel
theorem dX8_readsPart_79 : decode cX8_readsPart 79 = .ok (.ifCond .eq 15, 3) := by decide +kernel
theorem dX8_readsPart_82 : decode cX8_readsPart 82 = .ok (.aload_n 0, 1) := by decide +kernel
theorem dX8_readsPart_83 : decode cX8_readsPart 83 = .ok (.iconst 3, 1) := by decide +kernel
theorem dX8_readsPart_84 : decode cX8_readsPart 84 = .ok (.iload_n 1, 1) := by decide +kernel
theorem dX8_readsPart_85 : decode cX8_readsPart 85 = .ok (.bipush 35, 2) := by decide +kernel
theorem dX8_readsPart_87 : decode cX8_readsPart 87 = .ok (.iconst 1, 1) := by decide +kernel
theorem dX8_readsPart_88 : decode cX8_readsPart 88 = .ok (.invokevirtual 151, 3) := by decide +kernel
theorem dX8_readsPart_91 : decode cX8_readsPart 91 = .ok (.goto 64, 3) := by decide +kernel
theorem dX8_readsPart_94 : decode cX8_readsPart 94 = .ok (.aload_n 0, 1) := by decide +kernel
theorem dX8_readsPart_95 : decode cX8_readsPart 95 = .ok (.ldc 161, 2) := by decide +kernel
theorem dX8_readsPart_97 : decode cX8_readsPart 97 = .ok (.invokevirtual 147, 3) := by decide +kernel
theorem dX8_readsPart_100 : decode cX8_readsPart 100 = .ok (.ifCond .eq 32, 3) := by decide +kernel
theorem dX8_readsPart_103 : decode cX8_readsPart 103 = .ok (.aload_n 0, 1) := by decide +kernel
theorem dX8_readsPart_104 : decode cX8_readsPart 104 = .ok (.getfield 13, 3) := by decide +kernel
theorem dX8_readsPart_107 : decode cX8_readsPart 107 = .ok (.iconst 1, 1) := by decide +kernel
theorem dX8_readsPart_108 : decode cX8_readsPart 108 = .ok (.iaload, 1) := by decide +kernel
theorem dX8_readsPart_109 : decode cX8_readsPart 109 = .ok (.iconst 5, 1) := by decide +kernel
theorem dX8_readsPart_110 : decode cX8_readsPart 110 = .ok (.if_icmp .ne 9, 3) := by decide +kernel
theorem dX8_readsPart_113 : decode cX8_readsPart 113 = .ok (.aload_n 0, 1) := by decide +kernel
theorem dX8_readsPart_114 : decode cX8_readsPart 114 = .ok (.iconst 3, 1) := by decide +kernel
theorem dX8_readsPart_115 : decode cX8_readsPart 115 = .ok (.iload_n 1, 1) := by decide +kernel
theorem dX8_readsPart_116 : decode cX8_readsPart 116 = .ok (.invokevirtual 120, 3) := by decide +kernel
theorem dX8_readsPart_119 : decode cX8_readsPart 119 = .ok (.aload_n 0, 1) := by decide +kernel
theorem dX8_readsPart_120 : decode cX8_readsPart 120 = .ok (.getfield 13, 3) := by decide +kernel
theorem dX8_readsPart_123 : decode cX8_readsPart 123 = .ok (.iconst 1, 1) := by decide +kernel
theorem dX8_readsPart_124 : decode cX8_readsPart 124 = .ok (.dup2, 1) := by decide +kernel
theorem dX8_readsPart_125 : decode cX8_readsPart 125 = .ok (.iaload, 1) := by decide +kernel
theorem dX8_readsPart_126 : decode cX8_readsPart 126 = .ok (.iconst 1, 1) := by decide +kernel
theorem dX8_readsPart_127 : decode cX8_readsPart 127 = .ok (.iadd, 1) := by decide +kernel
theorem dX8_readsPart_128 : decode cX8_readsPart 128 = .ok (.iastore, 1) := by decide +kernel
theorem dX8_readsPart_129 : decode cX8_readsPart 129 = .ok (.goto 26, 3) := by decide +kernel
theorem dX8_readsPart_132 : decode cX8_readsPart 132 = .ok (.aload_n 0, 1) := by decide +kernel
theorem dX8_readsPart_133 : decode cX8_readsPart 133 = .ok (.ldc 163, 2) := by decide +kernel
theorem dX8_readsPart_135 : decode cX8_readsPart 135 = .ok (.invokevirtual 147, 3) := by decide +kernel
theorem dX8_readsPart_138 : decode cX8_readsPart 138 = .ok (.ifCond .eq 11, 3) := by decide +kernel
theorem dX8_readsPart_141 : decode cX8_readsPart 141 = .ok (.aload_n 0, 1) := by decide +kernel
theorem dX8_readsPart_142 : decode cX8_readsPart 142 = .ok (.iload_n 1, 1) := by decide +kernel
theorem dX8_readsPart_143 : decode cX8_readsPart 143 = .ok (.invokevirtual 165, 3) := by decide +kernel
theorem dX8_readsPart_146 : decode cX8_readsPart 146 = .ok (.goto 9, 3) := by decide +kernel
theorem dX8_readsPart_149 : decode cX8_readsPart 149 = .ok (.aload_n 0, 1) := by decide +kernel
theorem dX8_readsPart_150 : decode cX8_readsPart 150 = .ok (.iconst 1, 1) := by decide +kernel
theorem dX8_readsPart_151 : decode cX8_readsPart 151 = .ok (.iload_n 1, 1) := by decide +kernel
theorem dX8_readsPart_152 : decode cX8_readsPart 152 = .ok (.invokevirtual 120, 3) := by decide +kernel
theorem dX8_readsPart_155 : decode cX8_readsPart 155 = .ok (.return_, 1) := by decide +kernel
set_option maxHeartbeats 4000000 in
set_option maxRecDepth 100000 in
theorem m_X8_readsPart (l : Launch) (mem : Mem) (hRd : RdOk mem) (hN : 0 ≤ mem 2 0 ∧ mem 2 0 ≤ 8) (hD : 0 ≤ mem 2 1 ∧ mem 2 1 ≤ 5) (hS : 0 ≤ mem 2 2 ∧ mem 2 2 ≤ 40) (hH : ∀ k : Nat, 0 ≤ mem 2 k ∧ mem 2 k ≤ 100000 + 6 * mem 2 2) (hTo : ∀ k : Nat, mem 7 k = 0 ∨ mem 7 k = 1) (hBy : ∀ k : Nat, -128 ≤ mem 6 k ∧ mem 6 k ≤ 127) : Ret shp l yX8_readsPart cX8_readsPart 2 none 6 [pR 0] mem (fun rv mv => rv = none ∧ PtOk mem mv) := by
  refine ret_of (by decide +kernel) (Nat.le_of_ble_eq_true rfl) (fun X hX F G => ?_)
  show Ok shp X 2 0 [(0, pR 0)] [] mem
  refine ok_aload_n F dX8_readsPart_0 0 rfl ?_
  refine ok_callv F [] dX8_readsPart_1 kM_X8_next kI_X8_next kV_X8_next kL_X8_93 (ci := 8) rfl sh_0 rfl (by decide) (Nat.le_of_ble_eq_true rfl) rfl (m_X8_next _ mem (hRd.1) (hRd.2.1)) ?_
  rintro _ m_1 ⟨rfl, e_2⟩
  have eDD : m_1 = ptD mem := e_2
  obtain ⟨dd, hdd⟩ : ∃ x, x = m_1 := ⟨_, rfl⟩
  have eD : dd = ptD mem := hdd.trans eDD
  have vd := hdd.symm
  obtain ⟨hRdd, hRtt, hPb, hDa, hTa, eP, hid, hle, hN0, h99, h9t⟩ := pt_ok hRd
  have hRD := hRdd
  have h18 : m_1 0 8 = ptP mem := by rw [eDD, eP]
  rw [← eD] at hRdd hid
  have h6 : dd 6 = mem 6 := by rw [eD]; exact hDa 6 (by decide)
  refine ok_pop F dX8_readsPart_4 rfl ?_
  refine ok_aload_n F dX8_readsPart_5 0 rfl ?_
  refine ok_getf (v := m_1 0 8) F dX8_readsPart_6 kF_X8_79 sh_0 rfl rfl ?_
  refine ok_istore_n (lv' := [(1, pI (m_1 0 8)), (0, pR 0)]) F dX8_readsPart_9 (by decide) rfl ?_
  refine ok_aload_n F dX8_readsPart_10 1 rfl ?_
  refine ok_ldcs (i := 1) F dX8_readsPart_11 (List.mem_of_getElem? (i := 14) rfl) ?_
  refine ok_callv F [pR (1000 + 1)] dX8_readsPart_13 kM_X8_takes kI_X8_takes kV_X8_takes kL_X8_147 (ci := 8) rfl sh_0 rfl (by decide) (Nat.le_of_ble_eq_true rfl) rfl (m_X8_takes _ 1 m_1 (by omega) (by rw [vd]; exact hRdd.1) (by rw [vd]; exact hRdd.2.1) (fun k => by rw [vd, h6]; exact hBy k)) ?_
  rintro _ m_4 ⟨z_3, rfl, r_5⟩
  have hT := tkS vd hid r_5
  refine ok_if_eq F 31 dX8_readsPart_16 (by decide) (by omega) (fun c_6 => ?_) (fun c_6 => ?_)
  · obtain ⟨w1, q1, v1⟩ := hT.resolve_left (fun q => by have := q.2.1; omega)
    have vd := v1
    rw [eD, eP] at w1
    have w1 : ptW mem 1 = false := w1
    refine ok_aload_n F dX8_readsPart_31 1 rfl ?_
    refine ok_ldcs (i := 2) F dX8_readsPart_32 (List.mem_of_getElem? (i := 15) rfl) ?_
    refine ok_callv F [pR (1000 + 2)] dX8_readsPart_34 kM_X8_takes kI_X8_takes kV_X8_takes kL_X8_147 (ci := 8) rfl sh_0 rfl (by decide) (Nat.le_of_ble_eq_true rfl) rfl (m_X8_takes _ 2 m_4 (by omega) (by rw [vd]; exact hRdd.1) (by rw [vd]; exact hRdd.2.1) (fun k => by rw [vd, h6]; exact hBy k)) ?_
    rintro _ m_8 ⟨z_7, rfl, r_9⟩
    have hT := tkS vd hid r_9
    refine ok_if_eq F 52 dX8_readsPart_37 (by decide) (by omega) (fun c_10 => ?_) (fun c_10 => ?_)
    · obtain ⟨w2, q1, v1⟩ := hT.resolve_left (fun q => by have := q.2.1; omega)
      have vd := v1
      rw [eD, eP] at w2
      have w2 : ptW mem 2 = false := w2
      refine ok_aload_n F dX8_readsPart_52 1 rfl ?_
      refine ok_ldcs (i := 3) F dX8_readsPart_53 (List.mem_of_getElem? (i := 16) rfl) ?_
      refine ok_callv F [pR (1000 + 3)] dX8_readsPart_55 kM_X8_takes kI_X8_takes kV_X8_takes kL_X8_147 (ci := 8) rfl sh_0 rfl (by decide) (Nat.le_of_ble_eq_true rfl) rfl (m_X8_takes _ 3 m_8 (by omega) (by rw [vd]; exact hRdd.1) (by rw [vd]; exact hRdd.2.1) (fun k => by rw [vd, h6]; exact hBy k)) ?_
      rintro _ m_12 ⟨z_11, rfl, r_13⟩
      have hT := tkS vd hid r_13
      refine ok_if_eq F 73 dX8_readsPart_58 (by decide) (by omega) (fun c_14 => ?_) (fun c_14 => ?_)
      · obtain ⟨w3, q1, v1⟩ := hT.resolve_left (fun q => by have := q.2.1; omega)
        have vd := v1
        rw [eD, eP] at w3
        have w3 : ptW mem 3 = false := w3
        refine ok_aload_n F dX8_readsPart_73 1 rfl ?_
        refine ok_ldcs (i := 4) F dX8_readsPart_74 (List.mem_of_getElem? (i := 17) rfl) ?_
        refine ok_callv F [pR (1000 + 4)] dX8_readsPart_76 kM_X8_takes kI_X8_takes kV_X8_takes kL_X8_147 (ci := 8) rfl sh_0 rfl (by decide) (Nat.le_of_ble_eq_true rfl) rfl (m_X8_takes _ 4 m_12 (by omega) (by rw [vd]; exact hRdd.1) (by rw [vd]; exact hRdd.2.1) (fun k => by rw [vd, h6]; exact hBy k)) ?_
        rintro _ m_16 ⟨z_15, rfl, r_17⟩
        have hT := tkS vd hid r_17
        refine ok_if_eq F 94 dX8_readsPart_79 (by decide) (by omega) (fun c_18 => ?_) (fun c_18 => ?_)
        · obtain ⟨w4, q1, v1⟩ := hT.resolve_left (fun q => by have := q.2.1; omega)
          have vd := v1
          rw [eD, eP] at w4
          have w4 : ptW mem 4 = false := w4
          refine ok_aload_n F dX8_readsPart_94 1 rfl ?_
          refine ok_ldcs (i := 5) F dX8_readsPart_95 (List.mem_of_getElem? (i := 18) rfl) ?_
          refine ok_callv F [pR (1000 + 5)] dX8_readsPart_97 kM_X8_takes kI_X8_takes kV_X8_takes kL_X8_147 (ci := 8) rfl sh_0 rfl (by decide) (Nat.le_of_ble_eq_true rfl) rfl (m_X8_takes _ 5 m_16 (by omega) (by rw [vd]; exact hRdd.1) (by rw [vd]; exact hRdd.2.1) (fun k => by rw [vd, h6]; exact hBy k)) ?_
          rintro _ m_20 ⟨z_19, rfl, r_21⟩
          have hT := tkS vd hid r_21
          refine ok_if_eq F 132 dX8_readsPart_100 (by decide) (by omega) (fun c_22 => ?_) (fun c_22 => ?_)
          · obtain ⟨w5, q1, v1⟩ := hT.resolve_left (fun q => by have := q.2.1; omega)
            have vd := v1
            rw [eD, eP] at w5
            have w5 : ptW mem 5 = false := w5
            refine ok_aload_n F dX8_readsPart_132 1 rfl ?_
            refine ok_ldcs (i := 6) F dX8_readsPart_133 (List.mem_of_getElem? (i := 19) rfl) ?_
            refine ok_callv F [pR (1000 + 6)] dX8_readsPart_135 kM_X8_takes kI_X8_takes kV_X8_takes kL_X8_147 (ci := 8) rfl sh_0 rfl (by decide) (Nat.le_of_ble_eq_true rfl) rfl (m_X8_takes _ 6 m_20 (by omega) (by rw [vd]; exact hRdd.1) (by rw [vd]; exact hRdd.2.1) (fun k => by rw [vd, h6]; exact hBy k)) ?_
            rintro _ m_24 ⟨z_23, rfl, r_25⟩
            have hT := tkS vd hid r_25
            refine ok_if_eq F 149 dX8_readsPart_138 (by decide) (by omega) (fun c_26 => ?_) (fun c_26 => ?_)
            · obtain ⟨w6, q1, v1⟩ := hT.resolve_left (fun q => by have := q.2.1; omega)
              have vd := v1
              rw [eD, eP] at w6
              have w6 : ptW mem 6 = false := w6
              refine ok_aload_n F dX8_readsPart_149 1 rfl ?_
              refine ok_iconst F dX8_readsPart_150 ?_
              refine ok_iload_n F dX8_readsPart_151 0 rfl ?_
              refine ok_callv F [pI 1, pI (m_1 0 8)] dX8_readsPart_152 kM_X8_fails kI_X8_fails kV_X8_fails kL_X8_120 (ci := 8) rfl sh_0 rfl (by decide) (Nat.le_of_ble_eq_true rfl) rfl (m_X8_fails _ 1 (m_1 0 8) m_24 (by rw [vd]; have := hRdd.2.2.1; omega)) ?_
              rintro _ m_27 ⟨rfl, e_28⟩
              have hP : partM mem = flM (ptD mem) 1 (ptP mem) := by unfold partM; rw [if_neg (by rw [show ptW mem 1 = false from w1]; decide), if_neg (by rw [show ptW mem 2 = false from w2]; decide), if_neg (by rw [show ptW mem 3 = false from w3]; decide), if_neg (by rw [show ptW mem 4 = false from w4]; decide), if_neg (by rw [show ptW mem 5 = false from w5]; decide), if_neg (by rw [show ptW mem 6 = false from w6]; decide)]
              have hm : m_27 = flM (ptD mem) 1 (ptP mem) := by rw [e_28, vd, eD, h18]; rfl
              have y4 : ∀ a, a ≠ 0 → m_27 a = mem a := fun a ha => by rw [hm, flM_cell ha]; exact hDa a ha
              have y2 := y4 2 (by decide)
              have hFin : PtOk mem m_27 := ⟨by rw [hm, hP], by rw [hm]; exact flM_ok hRD (by omega) hPb, by rw [y2], fun _ => by rw [y2]; exact hD, by rw [y2]; exact hS, fun k => by rw [y2]; exact hH k, fun k => by rw [y4 7 (by decide)]; exact hTo k, fun a h0 _ _ => y4 a h0⟩
              refine ok_vret F G dX8_readsPart_155 ?_
              exact ⟨rfl, hFin⟩
            · obtain ⟨w6, q1, v1⟩ := hT.resolve_right (fun q => by have := q.2.1; omega)
              rw [eD, eP] at w6
              have w6 : ptW mem 6 = true := w6
              have vt : m_24 = ptT mem := by rw [v1, eD, eP]; rfl
              have hRt : RdOk m_24 := by rw [vt]; exact hRtt
              have hTt : ∀ a, a ≠ 0 → m_24 a = mem a := fun a ha => by rw [vt]; exact hTa a ha
              have t2 := hTt 2 (by decide)
              have t7 := hTt 7 (by decide)
              have t20 := congrFun t2 0
              have t21 := congrFun t2 1
              have t22 := congrFun t2 2
              have t9 := hRt.2.2.1
              refine ok_aload_n F dX8_readsPart_141 1 rfl ?_
              refine ok_iload_n F dX8_readsPart_142 0 rfl ?_
              refine ok_callv F [pI (m_1 0 8)] dX8_readsPart_143 kM_X8_readsSale kI_X8_readsSale kV_X8_readsSale kL_X8_165 (ci := 8) rfl sh_0 rfl (by decide) (Nat.le_of_ble_eq_true rfl) rfl (m_X8_readsSale _ (m_1 0 8) m_24 (hRt) (by omega) (by omega) (by omega) (by omega) (fun k => by rw [t2]; exact hH k)) ?_
              rintro _ m_30 ⟨rfl, r_31⟩
              obtain ⟨y0, y1, y2, y3, y4, y5, y6⟩ := id r_31
              have hP : partM mem = saleM (ptT mem) (ptP mem) := by unfold partM; rw [if_neg (by rw [show ptW mem 1 = false from w1]; decide), if_neg (by rw [show ptW mem 2 = false from w2]; decide), if_neg (by rw [show ptW mem 3 = false from w3]; decide), if_neg (by rw [show ptW mem 4 = false from w4]; decide), if_neg (by rw [show ptW mem 5 = false from w5]; decide), if_pos w6]
              have hFin : PtOk mem m_30 := ⟨by rw [y0, hP, vt, h18], y1, by omega, fun _ => by omega, y4, y5, fun k => by rw [y6 7 (by decide) (by decide), t7]; exact hTo k, fun a h0 h2 h7 => by rw [y6 a h0 h2]; exact hTt a h0⟩
              refine ok_goto F 155 dX8_readsPart_146 (by decide) ?_
              refine ok_vret F G dX8_readsPart_155 ?_
              exact ⟨rfl, hFin⟩
          · obtain ⟨w5, q1, v1⟩ := hT.resolve_right (fun q => by have := q.2.1; omega)
            rw [eD, eP] at w5
            have w5 : ptW mem 5 = true := w5
            have vt : m_20 = ptT mem := by rw [v1, eD, eP]; rfl
            have hRt : RdOk m_20 := by rw [vt]; exact hRtt
            have hTt : ∀ a, a ≠ 0 → m_20 a = mem a := fun a ha => by rw [vt]; exact hTa a ha
            have t2 := hTt 2 (by decide)
            have t7 := hTt 7 (by decide)
            have t20 := congrFun t2 0
            have t21 := congrFun t2 1
            have t22 := congrFun t2 2
            have t9 := hRt.2.2.1
            have h12 : m_20 2 1 = mem 2 1 := t21
            refine ok_aload_n F dX8_readsPart_103 1 rfl ?_
            refine ok_getr F dX8_readsPart_104 kF_X8_13 sh_0 rfl ?_
            refine ok_iconst F dX8_readsPart_107 ?_
            refine ok_iald (v := m_20 2 1) F dX8_readsPart_108 sh_2 (by first | decide | assumption) (by omega) (by omega) rfl ?_
            refine ok_iconst F dX8_readsPart_109 ?_
            refine ok_icmp_ne F 119 dX8_readsPart_110 (by decide) (by omega) (by omega) (fun c_32 => ?_) (fun c_32 => ?_)
            · have e21 : m_20 2 1 = ptT mem 2 1 := by first | (rw [vt]; done) | (rw [eF]; exact congrFun (flM_cell (by decide)) 1)
              refine ok_aload_n F dX8_readsPart_119 1 rfl ?_
              refine ok_getr F dX8_readsPart_120 kF_X8_13 sh_0 rfl ?_
              refine ok_iconst F dX8_readsPart_123 ?_
              refine ok_dup2 F dX8_readsPart_124 rfl rfl ?_
              refine ok_iald (v := m_20 2 1) F dX8_readsPart_125 sh_2 (by first | decide | assumption) (by omega) (by omega) rfl ?_
              refine ok_iconst F dX8_readsPart_126 ?_
              refine ok_iadd F dX8_readsPart_127 ?_
              refine ok_iast F dX8_readsPart_128 sh_2 (by first | decide | assumption) (by omega) (by omega) (fun m_33 e_34 => ?_)
              have hP : partM mem = dayM (ptT mem) (ptP mem) := by unfold partM; rw [if_neg (by rw [show ptW mem 1 = false from w1]; decide), if_neg (by rw [show ptW mem 2 = false from w2]; decide), if_neg (by rw [show ptW mem 3 = false from w3]; decide), if_neg (by rw [show ptW mem 4 = false from w4]; decide), if_pos w5]
              have hm : m_33 = dayM (ptT mem) (ptP mem) := by
                unfold dayM
                first
                  | (rw [← vt, if_neg (by omega)]; exact e_34)
                  | (rw [if_pos (by rw [← vt]; omega), ← eF, ← e21]; exact e_34)
              obtain ⟨y1, y4, y2, y3, y5⟩ := dayM_ok hRtt hPb
              rw [← hm] at y1 y4 y2 y3 y5
              rw [← vt] at y4 y2 y3 y5
              have z2 := y2 2 (by decide)
              have hFin : PtOk mem m_33 := ⟨by rw [hm, hP], y1, by rw [y2 0 (by decide), t2], fun q => by have := y5 q; omega, by omega, fun k => by by_cases y : k = 1; (rw [y, y3, z2, t21, t22]; omega); (rw [y2 k y, z2, t22, t2]; exact hH k), fun k => by rw [y4 7 (by decide) (by decide), t7]; exact hTo k, fun a h0 h2 h7 => by rw [y4 a h0 h2]; exact hTt a h0⟩
              refine ok_goto F 155 dX8_readsPart_129 (by decide) ?_
              refine ok_vret F G dX8_readsPart_155 ?_
              exact ⟨rfl, hFin⟩
            · refine ok_aload_n F dX8_readsPart_113 1 rfl ?_
              refine ok_iconst F dX8_readsPart_114 ?_
              refine ok_iload_n F dX8_readsPart_115 0 rfl ?_
              refine ok_callv F [pI 3, pI (m_1 0 8)] dX8_readsPart_116 kM_X8_fails kI_X8_fails kV_X8_fails kL_X8_120 (ci := 8) rfl sh_0 rfl (by decide) (Nat.le_of_ble_eq_true rfl) rfl (m_X8_fails _ 3 (m_1 0 8) m_20 (by omega)) ?_
              rintro _ m_35 ⟨rfl, e_36⟩
              have eF : m_35 = flM (ptT mem) 3 (ptP mem) := by rw [e_36, ← vt, h18]; rfl
              have e21 : m_35 2 1 = ptT mem 2 1 := by first | (rw [vt]; done) | (rw [eF]; exact congrFun (flM_cell (by decide)) 1)
              refine ok_aload_n F dX8_readsPart_119 1 rfl ?_
              refine ok_getr F dX8_readsPart_120 kF_X8_13 sh_0 rfl ?_
              refine ok_iconst F dX8_readsPart_123 ?_
              refine ok_dup2 F dX8_readsPart_124 rfl rfl ?_
              refine ok_iald (v := m_35 2 1) F dX8_readsPart_125 sh_2 (by first | decide | assumption) (by omega) (by omega) rfl ?_
              refine ok_iconst F dX8_readsPart_126 ?_
              refine ok_iadd F dX8_readsPart_127 ?_
              refine ok_iast F dX8_readsPart_128 sh_2 (by first | decide | assumption) (by omega) (by omega) (fun m_37 e_38 => ?_)
              have hP : partM mem = dayM (ptT mem) (ptP mem) := by unfold partM; rw [if_neg (by rw [show ptW mem 1 = false from w1]; decide), if_neg (by rw [show ptW mem 2 = false from w2]; decide), if_neg (by rw [show ptW mem 3 = false from w3]; decide), if_neg (by rw [show ptW mem 4 = false from w4]; decide), if_pos w5]
              have hm : m_37 = dayM (ptT mem) (ptP mem) := by
                unfold dayM
                first
                  | (rw [← vt, if_neg (by omega)]; exact e_38)
                  | (rw [if_pos (by rw [← vt]; omega), ← eF, ← e21]; exact e_38)
              obtain ⟨y1, y4, y2, y3, y5⟩ := dayM_ok hRtt hPb
              rw [← hm] at y1 y4 y2 y3 y5
              rw [← vt] at y4 y2 y3 y5
              have z2 := y2 2 (by decide)
              have hFin : PtOk mem m_37 := ⟨by rw [hm, hP], y1, by rw [y2 0 (by decide), t2], fun q => by have := y5 q; omega, by omega, fun k => by by_cases y : k = 1; (rw [y, y3, z2, t21, t22]; omega); (rw [y2 k y, z2, t22, t2]; exact hH k), fun k => by rw [y4 7 (by decide) (by decide), t7]; exact hTo k, fun a h0 h2 h7 => by rw [y4 a h0 h2]; exact hTt a h0⟩
              refine ok_goto F 155 dX8_readsPart_129 (by decide) ?_
              refine ok_vret F G dX8_readsPart_155 ?_
              exact ⟨rfl, hFin⟩
        · obtain ⟨w4, q1, v1⟩ := hT.resolve_right (fun q => by have := q.2.1; omega)
          rw [eD, eP] at w4
          have w4 : ptW mem 4 = true := w4
          have vt : m_16 = ptT mem := by rw [v1, eD, eP]; rfl
          have hRt : RdOk m_16 := by rw [vt]; exact hRtt
          have hTt : ∀ a, a ≠ 0 → m_16 a = mem a := fun a ha => by rw [vt]; exact hTa a ha
          have t2 := hTt 2 (by decide)
          have t7 := hTt 7 (by decide)
          have t20 := congrFun t2 0
          have t21 := congrFun t2 1
          have t22 := congrFun t2 2
          have t9 := hRt.2.2.1
          refine ok_aload_n F dX8_readsPart_82 1 rfl ?_
          refine ok_iconst F dX8_readsPart_83 ?_
          refine ok_iload_n F dX8_readsPart_84 0 rfl ?_
          refine ok_bipush F dX8_readsPart_85 rfl ?_
          refine ok_iconst F dX8_readsPart_87 ?_
          refine ok_callv F [pI 3, pI (m_1 0 8), pI 35, pI 1] dX8_readsPart_88 kM_X8_readsRow kI_X8_readsRow kV_X8_readsRow kL_X8_151 (ci := 8) rfl sh_0 rfl (by decide) (Nat.le_of_ble_eq_true rfl) rfl (m_X8_readsRow _ 3 (m_1 0 8) 35 1 m_16 (by omega) (by omega) (by omega) (by omega) (hRt) (by omega) (fun k => by rw [t7]; exact hTo k)) ?_
          rintro _ m_40 ⟨rfl, r_41⟩
          have hm : m_40 = readRowM (ptT mem) 3 (ptP mem) 35 1 := by rw [r_41, vt, h18]; rfl
          have hP : partM mem = readRowM (ptT mem) 3 (ptP mem) 35 1 := by unfold partM; rw [if_neg (by rw [show ptW mem 1 = false from w1]; decide), if_neg (by rw [show ptW mem 2 = false from w2]; decide), if_neg (by rw [show ptW mem 3 = false from w3]; decide), if_pos w4]
          obtain ⟨y1, y2, y3, y4, y5⟩ := readRowM_ok (m := ptT mem) (r := 3) (s := 35) (p := ptP mem) (l := 1) hRtt hPb (by decide)
          rw [← hm] at y1 y2 y3 y4 y5
          rw [← vt] at y2 y3 y4 y5
          have z2 := y2 2 (by decide)
          have hFin : PtOk mem m_40 := ⟨by rw [hm, hP], y1, by rw [y2 0 (by decide), t2], fun _ => by rw [y2 1 (by decide), t2]; exact hD, by omega, fun k => by rw [z2, t22]; exact y3 _ (by omega) (fun j => by rw [t2]; exact hH j) k, y5 (fun k => by rw [t7]; exact hTo k), fun a h0 h2 h7 => by rw [y4 a h0 h2 h7]; exact hTt a h0⟩
          refine ok_goto F 155 dX8_readsPart_91 (by decide) ?_
          refine ok_vret F G dX8_readsPart_155 ?_
          exact ⟨rfl, hFin⟩
      · obtain ⟨w3, q1, v1⟩ := hT.resolve_right (fun q => by have := q.2.1; omega)
        rw [eD, eP] at w3
        have w3 : ptW mem 3 = true := w3
        have vt : m_12 = ptT mem := by rw [v1, eD, eP]; rfl
        have hRt : RdOk m_12 := by rw [vt]; exact hRtt
        have hTt : ∀ a, a ≠ 0 → m_12 a = mem a := fun a ha => by rw [vt]; exact hTa a ha
        have t2 := hTt 2 (by decide)
        have t7 := hTt 7 (by decide)
        have t20 := congrFun t2 0
        have t21 := congrFun t2 1
        have t22 := congrFun t2 2
        have t9 := hRt.2.2.1
        refine ok_aload_n F dX8_readsPart_61 1 rfl ?_
        refine ok_iconst F dX8_readsPart_62 ?_
        refine ok_iload_n F dX8_readsPart_63 0 rfl ?_
        refine ok_bipush F dX8_readsPart_64 rfl ?_
        refine ok_iconst F dX8_readsPart_66 ?_
        refine ok_callv F [pI 2, pI (m_1 0 8), pI 27, pI 0] dX8_readsPart_67 kM_X8_readsRow kI_X8_readsRow kV_X8_readsRow kL_X8_151 (ci := 8) rfl sh_0 rfl (by decide) (Nat.le_of_ble_eq_true rfl) rfl (m_X8_readsRow _ 2 (m_1 0 8) 27 0 m_12 (by omega) (by omega) (by omega) (by omega) (hRt) (by omega) (fun k => by rw [t7]; exact hTo k)) ?_
        rintro _ m_43 ⟨rfl, r_44⟩
        have hm : m_43 = readRowM (ptT mem) 2 (ptP mem) 27 0 := by rw [r_44, vt, h18]; rfl
        have hP : partM mem = readRowM (ptT mem) 2 (ptP mem) 27 0 := by unfold partM; rw [if_neg (by rw [show ptW mem 1 = false from w1]; decide), if_neg (by rw [show ptW mem 2 = false from w2]; decide), if_pos w3]
        obtain ⟨y1, y2, y3, y4, y5⟩ := readRowM_ok (m := ptT mem) (r := 2) (s := 27) (p := ptP mem) (l := 0) hRtt hPb (by decide)
        rw [← hm] at y1 y2 y3 y4 y5
        rw [← vt] at y2 y3 y4 y5
        have z2 := y2 2 (by decide)
        have hFin : PtOk mem m_43 := ⟨by rw [hm, hP], y1, by rw [y2 0 (by decide), t2], fun _ => by rw [y2 1 (by decide), t2]; exact hD, by omega, fun k => by rw [z2, t22]; exact y3 _ (by omega) (fun j => by rw [t2]; exact hH j) k, y5 (fun k => by rw [t7]; exact hTo k), fun a h0 h2 h7 => by rw [y4 a h0 h2 h7]; exact hTt a h0⟩
        refine ok_goto F 155 dX8_readsPart_70 (by decide) ?_
        refine ok_vret F G dX8_readsPart_155 ?_
        exact ⟨rfl, hFin⟩
    · obtain ⟨w2, q1, v1⟩ := hT.resolve_right (fun q => by have := q.2.1; omega)
      rw [eD, eP] at w2
      have w2 : ptW mem 2 = true := w2
      have vt : m_8 = ptT mem := by rw [v1, eD, eP]; rfl
      have hRt : RdOk m_8 := by rw [vt]; exact hRtt
      have hTt : ∀ a, a ≠ 0 → m_8 a = mem a := fun a ha => by rw [vt]; exact hTa a ha
      have t2 := hTt 2 (by decide)
      have t7 := hTt 7 (by decide)
      have t20 := congrFun t2 0
      have t21 := congrFun t2 1
      have t22 := congrFun t2 2
      have t9 := hRt.2.2.1
      refine ok_aload_n F dX8_readsPart_40 1 rfl ?_
      refine ok_iconst F dX8_readsPart_41 ?_
      refine ok_iload_n F dX8_readsPart_42 0 rfl ?_
      refine ok_bipush F dX8_readsPart_43 rfl ?_
      refine ok_iconst F dX8_readsPart_45 ?_
      refine ok_callv F [pI 1, pI (m_1 0 8), pI 19, pI 0] dX8_readsPart_46 kM_X8_readsRow kI_X8_readsRow kV_X8_readsRow kL_X8_151 (ci := 8) rfl sh_0 rfl (by decide) (Nat.le_of_ble_eq_true rfl) rfl (m_X8_readsRow _ 1 (m_1 0 8) 19 0 m_8 (by omega) (by omega) (by omega) (by omega) (hRt) (by omega) (fun k => by rw [t7]; exact hTo k)) ?_
      rintro _ m_46 ⟨rfl, r_47⟩
      have hm : m_46 = readRowM (ptT mem) 1 (ptP mem) 19 0 := by rw [r_47, vt, h18]; rfl
      have hP : partM mem = readRowM (ptT mem) 1 (ptP mem) 19 0 := by unfold partM; rw [if_neg (by rw [show ptW mem 1 = false from w1]; decide), if_pos w2]
      obtain ⟨y1, y2, y3, y4, y5⟩ := readRowM_ok (m := ptT mem) (r := 1) (s := 19) (p := ptP mem) (l := 0) hRtt hPb (by decide)
      rw [← hm] at y1 y2 y3 y4 y5
      rw [← vt] at y2 y3 y4 y5
      have z2 := y2 2 (by decide)
      have hFin : PtOk mem m_46 := ⟨by rw [hm, hP], y1, by rw [y2 0 (by decide), t2], fun _ => by rw [y2 1 (by decide), t2]; exact hD, by omega, fun k => by rw [z2, t22]; exact y3 _ (by omega) (fun j => by rw [t2]; exact hH j) k, y5 (fun k => by rw [t7]; exact hTo k), fun a h0 h2 h7 => by rw [y4 a h0 h2 h7]; exact hTt a h0⟩
      refine ok_goto F 155 dX8_readsPart_49 (by decide) ?_
      refine ok_vret F G dX8_readsPart_155 ?_
      exact ⟨rfl, hFin⟩
  · obtain ⟨w1, q1, v1⟩ := hT.resolve_right (fun q => by have := q.2.1; omega)
    rw [eD, eP] at w1
    have w1 : ptW mem 1 = true := w1
    have vt : m_4 = ptT mem := by rw [v1, eD, eP]; rfl
    have hRt : RdOk m_4 := by rw [vt]; exact hRtt
    have hTt : ∀ a, a ≠ 0 → m_4 a = mem a := fun a ha => by rw [vt]; exact hTa a ha
    have t2 := hTt 2 (by decide)
    have t7 := hTt 7 (by decide)
    have t20 := congrFun t2 0
    have t21 := congrFun t2 1
    have t22 := congrFun t2 2
    have t9 := hRt.2.2.1
    refine ok_aload_n F dX8_readsPart_19 1 rfl ?_
    refine ok_iconst F dX8_readsPart_20 ?_
    refine ok_iload_n F dX8_readsPart_21 0 rfl ?_
    refine ok_bipush F dX8_readsPart_22 rfl ?_
    refine ok_iconst F dX8_readsPart_24 ?_
    refine ok_callv F [pI 0, pI (m_1 0 8), pI 11, pI 0] dX8_readsPart_25 kM_X8_readsRow kI_X8_readsRow kV_X8_readsRow kL_X8_151 (ci := 8) rfl sh_0 rfl (by decide) (Nat.le_of_ble_eq_true rfl) rfl (m_X8_readsRow _ 0 (m_1 0 8) 11 0 m_4 (by omega) (by omega) (by omega) (by omega) (hRt) (by omega) (fun k => by rw [t7]; exact hTo k)) ?_
    rintro _ m_49 ⟨rfl, r_50⟩
    have hm : m_49 = readRowM (ptT mem) 0 (ptP mem) 11 0 := by rw [r_50, vt, h18]; rfl
    have hP : partM mem = readRowM (ptT mem) 0 (ptP mem) 11 0 := by unfold partM; rw [if_pos w1]
    obtain ⟨y1, y2, y3, y4, y5⟩ := readRowM_ok (m := ptT mem) (r := 0) (s := 11) (p := ptP mem) (l := 0) hRtt hPb (by decide)
    rw [← hm] at y1 y2 y3 y4 y5
    rw [← vt] at y2 y3 y4 y5
    have z2 := y2 2 (by decide)
    have hFin : PtOk mem m_49 := ⟨by rw [hm, hP], y1, by rw [y2 0 (by decide), t2], fun _ => by rw [y2 1 (by decide), t2]; exact hD, by omega, fun k => by rw [z2, t22]; exact y3 _ (by omega) (fun j => by rw [t2]; exact hH j) k, y5 (fun k => by rw [t7]; exact hTo k), fun a h0 h2 h7 => by rw [y4 a h0 h2 h7]; exact hTt a h0⟩
    refine ok_goto F 155 dX8_readsPart_28 (by decide) ?_
    refine ok_vret F G dX8_readsPart_155 ?_
    exact ⟨rfl, hFin⟩
