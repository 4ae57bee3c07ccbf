/-! a fault is never 0 -/
theorem flZ {m : Mem} {k p : Int} (h : m 0 9 ≠ 0) (hk : 1 ≤ k) (hp : 0 ≤ p) : flM m k p 0 9 ≠ 0 := by
  unfold flM
  by_cases g : m 0 9 = -1
  · rw [if_pos g, mset_eq]; omega
  · rw [if_neg g]; exact h
theorem numZ {m : Mem} (hok : RdOk m) (h : m 0 9 ≠ 0) (lo hi : Int) : numM m lo hi 0 9 ≠ 0 := by
  by_cases g : m 0 9 = -1
  · obtain ⟨a, b⟩ := numM_9 g lo hi
    have hP := (pt_ok hok).2.2.1
    by_cases d : dgN m
    · rw [(a d).2.2.1]
      split <;> omega
    · rw [b d]; omega
  · rw [numM_bad g]; exact h
theorem rowZ (s : Nat) (l : Int) : ∀ (c i : Nat) (m : Mem), RdOk m → m 0 9 ≠ 0 → rowL s l c i m 0 9 ≠ 0
  | 0, _, _, _, h => h
  | c + 1, i, m, hok, h => by
    rw [rowL_s]
    by_cases g : m 0 9 = -1
    · rw [if_pos g]
      have e0 : mset (numM m l 99) 2 (s + i) (numR m l 99).1 0 = numM m l 99 0 := mset_nka (by decide)
      exact rowZ s l c (i + 1) _ ((numM_ok hok l 99).cell e0) (by rw [e0]; exact numZ hok h l 99)
    · rw [if_neg g]; exact h
theorem readRowZ {m : Mem} (hok : RdOk m) (h : m 0 9 ≠ 0) (r : Nat) {p : Int} (hp : 0 ≤ p ∧ p ≤ 400) (s : Nat) (l : Int) : readRowM m r p s l 0 9 ≠ 0 := by
  have hx : RdOk (if m 7 r ≠ 0 then flM m 3 p else m) ∧ (if m 7 r ≠ 0 then flM m 3 p else m) 0 9 ≠ 0 := by
    by_cases y : m 7 r ≠ 0
    · rw [if_pos y]; exact ⟨flM_ok hok (by omega) hp, flZ h (by decide) hp.1⟩
    · rw [if_neg y]; exact ⟨hok, h⟩
  have e0 : mset (if m 7 r ≠ 0 then flM m 3 p else m) 7 r 1 0 = (if m 7 r ≠ 0 then flM m 3 p else m) 0 := mset_nka (by decide)
  unfold readRowM
  exact rowZ s l _ _ _ (hx.1.cell e0) (by rw [e0]; exact hx.2)
theorem qDZ {m : Mem} (hok : RdOk m) (h : m 0 9 ≠ 0) (c t : Int) : qD m c t 0 9 ≠ 0 := by
  have n := numZ hok h 1 500
  have no := numM_ok hok 1 500
  have a : qA m 0 9 ≠ 0 := by
    unfold qA
    split
    · exact flZ n (by decide) no.2.2.2.1
    · exact n
  have ao := (qA_ok hok).1
  have b : qB m c 0 9 ≠ 0 := by
    unfold qB
    split
    · exact flZ a (by decide) ao.2.2.2.1
    · exact a
  have e : qC m c t 0 9 ≠ 0 := by rw [(qC_ok hok c t).2.2]; exact b
  unfold qD
  split
  · rw [mset_ne (by decide)]; exact e
  · exact e
theorem pcZ : ∀ (n : Nat) (c t w : Int) (m : Mem), RdOk m → m 0 9 ≠ 0 → RdOk (pcL n c t w m).1 ∧ (pcL n c t w m).1 0 9 ≠ 0
  | 0, _, _, _, _, hok, h => ⟨hok, h⟩
  | n + 1, c, t, w, m, hok, h => by
    have a := (qD_ok hok c t).1
    have b := qDZ hok h c t
    rw [pcL_s]
    by_cases q : qMore m c t = true
    · rw [if_pos q]; exact pcZ n _ _ _ _ a b
    · rw [if_neg q]; exact ⟨a, b⟩
theorem saleZ {m : Mem} (hok : RdOk m) (h : m 0 9 ≠ 0) {p : Int} (hp : 0 ≤ p ∧ p ≤ 400) : saleM m p 0 9 ≠ 0 := by
  obtain ⟨oA, oB, _⟩ := sB_ok hok hp
  have a : sA m p 0 9 ≠ 0 := by
    unfold sA
    split
    · exact flZ h (by decide) hp.1
    · exact h
  have b : sB m p 0 9 ≠ 0 := by
    unfold sB
    split
    · exact flZ a (by decide) hp.1
    · exact a
  have gz : ∀ g : Mem, RdOk g → g 0 9 ≠ 0 → sG g 0 9 ≠ 0 := fun g hg h9 => by
    obtain ⟨o0, oC, _, _⟩ := sC_ok hg
    have c0 : sC0 g 0 = g 0 := mset_nka (by decide)
    have c : sC g 0 9 ≠ 0 := by
      unfold sC
      rw [mset_nk (by decide)]
      exact numZ o0 (by rw [c0]; exact h9) 1 1000
    have cs : sCs g 0 9 ≠ 0 := by
      unfold sCs
      rw [mset_ne (by decide)]; exact c
    have hs := skipF_bd (mem := sC g) oC.1.2 401 oC.2.1
    have d : sD g 0 9 ≠ 0 := by
      unfold sD
      split
      · split
        · exact cs
        · refine flZ cs (by decide) ?_
          unfold sCs
          rw [mset_eq]
          have := oC.2.1
          omega
      · exact c
    have e : sE g 0 9 ≠ 0 := by
      unfold sE
      rw [mset_ne (by decide)]; exact d
    obtain ⟨f1, f2⟩ := pcZ 7 0 (sTo g) 0 (sE g) (sE_ok hg).1 e
    unfold sG
    split
    · exact flZ f2 (by decide) f1.2.2.2.1
    · exact f2
  unfold saleM
  split
  · rw [mset_nk (by decide)]; exact gz _ oB b
  · exact b
theorem partZ {m : Mem} (hok : RdOk m) (h : m 0 9 ≠ 0) : partM m 0 9 ≠ 0 := by
  obtain ⟨pD, pT, pP, aD, aT, eP1, pid, hle, pN, p99, p9t⟩ := pt_ok hok
  have t : ptT m 0 9 ≠ 0 := by rw [p9t]; exact h
  have d : ptD m 0 9 ≠ 0 := by rw [p99]; exact h
  unfold partM
  split
  · exact readRowZ pT t _ pP _ _
  · split
    · exact readRowZ pT t _ pP _ _
    · split
      · exact readRowZ pT t _ pP _ _
      · split
        · exact readRowZ pT t _ pP _ _
        · split
          · unfold dayM
            rw [mset_nk (by decide)]
            split
            · exact flZ t (by decide) pP.1
            · exact t
          · split
            · exact saleZ pT t pP
            · exact flZ d (by decide) pP.1
theorem kDZ {m : Mem} (hok : RdOk m) (h : m 0 9 ≠ 0) : kD m 0 9 ≠ 0 := by
  have n := numZ hok h 1 500
  have no := numM_ok hok 1 500
  have a : kA m 0 9 ≠ 0 := by
    unfold kA
    split
    · exact flZ n (by decide) no.2.2.2.1
    · exact n
  have ao := (kA_ok hok).1
  have b : kB m 0 9 ≠ 0 := by
    unfold kB
    split
    · exact flZ a (by decide) ao.2.2.2.1
    · exact a
  have e : kC m 0 9 ≠ 0 := by rw [(kC_ok hok).2.2]; exact b
  unfold kD
  split
  · rw [mset_ne (by decide)]; exact e
  · exact e
theorem kindsZ : ∀ (n : Nat) (m : Mem), RdOk m → m 0 9 ≠ 0 → RdOk (kindsL n m) ∧ kindsL n m 0 9 ≠ 0
  | 0, _, hok, h => ⟨hok, h⟩
  | n + 1, m, hok, h => by
    rw [kindsL_s]
    by_cases q : kMore m = true
    · rw [if_pos q]; exact kindsZ n _ (kD_ok hok).1 (kDZ hok h)
    · rw [if_neg q]; exact ⟨(kD_ok hok).1, kDZ hok h⟩
theorem pt_idem {m : Mem} (hok : RdOk m) : ptP (ptD m) = ptP m ∧ ptD (ptD m) = ptD m ∧ sgn (ptD m) (ptP m) = sgn m (ptP m) := by
  obtain ⟨pD, pT, pP, aD, aT, eP1, pid, hle, pN, p99, p9t⟩ := pt_ok hok
  have a : ptP (ptD m) = ptP m := by
    show skipF (ptD m) 401 (ptD m 0 8) = ptP m
    rw [pid, eP1]
  refine ⟨a, ?_, sgn_of (aD 6 (by decide)) (mset_ne (by decide)) _⟩
  show mset (ptD m) 0 8 (ptP (ptD m)) = ptD m
  rw [a]
  unfold ptD
  rw [mset_mset]
theorem partsL_bad {m : Mem} (h : m 0 9 ≠ -1) : ∀ n : Nat, partsL n m = m
  | 0 => rfl
  | n + 1 => by
    rw [partsL_s, if_neg (by unfold goesP; rw [decide_eq_false (fun q => h q.1)]; decide)]
    exact if_neg h
theorem tl3_bad {m : Mem} (h : m 0 9 ≠ -1) : tl3 m = m := by
  unfold tl3 stopP
  rw [if_neg (fun q => h q.1), if_neg h]
theorem tl3_stop {m : Mem} (hok : RdOk m) (h9 : m 0 9 = -1) : (sgn m (ptP m) = -1 → tl3 (ptD m) = ptD m) ∧ (sgn m (ptP m) ≠ -1 → tl3 (ptD m) 0 9 = 8 * ptP m + 1) := by
  obtain ⟨i1, i2, i3⟩ := pt_idem hok
  obtain ⟨pD, pT, pP, aD, aT, eP1, pid, hle, pN, p99, p9t⟩ := pt_ok hok
  have h9d : ptD m 0 9 = -1 := by rw [p99]; exact h9
  constructor
  · intro h
    unfold tl3 stopP
    rw [i1, i3, if_neg (fun q => q.2 h), if_pos h9d, i2]
  · intro h
    unfold tl3 stopP
    rw [i1, i3, if_pos ⟨h9d, h⟩, if_pos h9d, i2]
    unfold flM
    rw [if_pos h9d, mset_eq]
