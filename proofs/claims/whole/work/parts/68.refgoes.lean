/-! the reference: reading goes on, and leaves the other fields -/
def Stp (m mv : Mem) : Prop := m 0 8 ≤ mv 0 8 ∧ ∀ j, j ≠ 8 → j ≠ 9 → j ≠ 10 → mv 0 j = m 0 j
theorem Stp.rfl (m : Mem) : Stp m m := ⟨Int.le_refl _, fun _ _ _ _ => Eq.refl _⟩
theorem Stp.trans {a b c : Mem} (h : Stp a b) (g : Stp b c) : Stp a c := ⟨Int.le_trans h.1 g.1, fun j x y z => (g.2 j x y z).trans (h.2 j x y z)⟩
theorem Stp.cell {a b c : Mem} (h : Stp a b) (e : c 0 = b 0) : Stp a c := by
  unfold Stp at h ⊢
  rw [e]; exact h
theorem Stp.at {m : Mem} {v : Int} (h : m 0 8 ≤ v) : Stp m (mset m 0 8 v) := ⟨by rw [mset_eq]; exact h, fun j x _ _ => mset_ne (fun q => x q.2)⟩
theorem Stp.ite {a b c : Mem} {p : Prop} [Decidable p] (h : Stp a b) (g : Stp a c) : Stp a (if p then b else c) := by
  by_cases q : p
  · rw [if_pos q]; exact h
  · rw [if_neg q]; exact g
theorem skipF_le (mem : Mem) : ∀ (n : Nat) (p : Int), p ≤ skipF mem n p
  | 0, p => Int.le_refl _
  | n + 1, p => by
    rw [skipF_s]
    by_cases g : sgn mem p = 32
    · rw [if_pos g]; have := skipF_le mem n (p + 1); omega
    · rw [if_neg g]; exact Int.le_refl _
theorem numL_le (mem : Mem) : ∀ (c : Nat) (p n : Int), p ≤ (numL mem c p n).1
  | 0, p, n => Int.le_refl _
  | c + 1, p, n => by
    rw [numL_s]
    by_cases g : 48 ≤ sgn mem p ∧ sgn mem p ≤ 57
    · rw [if_pos g]; have := numL_le mem c (p + 1) (min 100000 (10 * n + sgn mem p - 48)); omega
    · rw [if_neg g]; exact Int.le_refl _
theorem letN_le (mem : Mem) : ∀ (c : Nat) (p : Int), 0 ≤ letN mem c p
  | 0, p => Int.le_refl _
  | c + 1, p => by
    rw [letN_s]
    by_cases g : p < mem 0 7 ∧ 97 ≤ mem 6 p.toNat ∧ mem 6 p.toNat ≤ 122
    · rw [if_pos g]; have := letN_le mem c (p + 1); omega
    · rw [if_neg g]; exact Int.le_refl _
theorem stp_flM (m : Mem) (k p : Int) : Stp m (flM m k p) := by
  unfold flM
  refine Stp.ite ⟨by rw [mset_ne (by decide)]; exact Int.le_refl _, fun j _ y _ => mset_ne (fun q => y q.2)⟩ (Stp.rfl m)
theorem stp_numM (m : Mem) (lo hi : Int) : Stp m (numM m lo hi) := by
  obtain ⟨_, e2, e3, _, _⟩ := numM_at m lo hi
  refine ⟨?_, e2⟩
  rw [e3]
  have hs := skipF_le m 401 (m 0 8)
  unfold numR
  by_cases a : m 0 9 ≠ -1
  · rw [if_pos a]; exact Int.le_refl _
  · rw [if_neg a]
    by_cases b : 48 ≤ sgn m (skipF m 401 (m 0 8)) ∧ sgn m (skipF m 401 (m 0 8)) ≤ 57
    · rw [if_pos b]; have := numL_le m 401 (skipF m 401 (m 0 8)) 0; omega
    · rw [if_neg b]; exact hs
theorem stp_rowL (s : Nat) (l : Int) : ∀ (c i : Nat) (m : Mem), Stp m (rowL s l c i m)
  | 0, _, m => Stp.rfl m
  | c + 1, i, m => by
    rw [rowL_s]
    exact Stp.ite (((stp_numM m l 99).cell (mset_nka (by decide))).trans (stp_rowL s l c (i + 1) _)) (Stp.rfl m)
theorem stp_readRowM (m : Mem) (r : Nat) (p : Int) (s : Nat) (l : Int) : Stp m (readRowM m r p s l) := by
  unfold readRowM
  exact ((Stp.ite (stp_flM m 3 p) (Stp.rfl m)).cell (mset_nka (by decide))).trans (stp_rowL s l _ _ _)
theorem stp_qD (m : Mem) (c t : Int) : Stp m (qD m c t) := by
  have a : Stp m (qA m) := by
    unfold qA
    exact Stp.ite ((stp_numM m 1 500).trans (stp_flM _ _ _)) (stp_numM m 1 500)
  have b : Stp m (qB m c) := by
    unfold qB
    exact Stp.ite (a.trans (stp_flM _ _ _)) a
  have d : Stp m (qC m c t) := by
    unfold qC
    exact Stp.ite (b.cell (mset_nka (by decide))) b
  unfold qD
  exact Stp.ite (d.trans (Stp.at (skipF_le _ _ _))) d
theorem stp_pcL : ∀ (n : Nat) (c t g : Int) (m : Mem), Stp m (pcL n c t g m).1
  | 0, _, _, _, m => Stp.rfl m
  | n + 1, c, t, g, m => by
    rw [pcL_s]
    by_cases q : qMore m c t = true
    · rw [if_pos q]; exact (stp_qD m c t).trans (stp_pcL n _ _ _ _)
    · rw [if_neg q]; exact stp_qD m c t
theorem stp_saleM (m : Mem) (p : Int) : Stp m (saleM m p) := by
  have a : Stp m (sB m p) := by
    have x : Stp m (sA m p) := Stp.ite (stp_flM _ _ _) (Stp.rfl m)
    unfold sB
    exact Stp.ite (x.trans (stp_flM _ _ _)) x
  have hE : ∀ m : Mem, Stp m (sE m) := fun m => by
    have c : Stp m (sC m) := by
      have x : Stp m (sC0 m) := (Stp.rfl m).cell (mset_nka (by decide))
      unfold sC
      exact (x.trans (stp_numM _ _ _)).cell (mset_nka (by decide))
    have cs : Stp m (sCs m) := c.trans (Stp.at (skipF_le _ _ _))
    have d : Stp m (sD m) := by
      unfold sD
      exact Stp.ite (Stp.ite cs (cs.trans (stp_flM _ _ _))) c
    unfold sE
    refine d.trans (Stp.at ?_)
    split <;> omega
  have hG : ∀ m : Mem, Stp m (sG m) := fun m => by
    have f : Stp m (sF m).1 := (hE m).trans (stp_pcL _ _ _ _ _)
    unfold sG
    exact Stp.ite (f.trans (stp_flM _ _ _)) f
  unfold saleM
  exact Stp.ite ((a.trans (hG _)).cell (mset_nka (by decide))) a
theorem stp_dayM (m : Mem) (p : Int) : Stp m (dayM m p) := by
  unfold dayM
  exact (Stp.ite (stp_flM m 3 p) (Stp.rfl m)).cell (mset_nka (by decide))
theorem stp_ptD (m : Mem) : Stp m (ptD m) := Stp.at (skipF_le m 401 (m 0 8))
theorem stp_ptT (m : Mem) : Stp m (ptT m) := by
  refine (stp_ptD m).trans (Stp.at ?_)
  have e : ptD m 0 8 = ptP m := mset_eq _ _ _ _
  have h : 0 ≤ ptN m := letN_le _ _ _
  omega
theorem stp_partM (m : Mem) : Stp m (partM m) := by
  have d := stp_ptD m
  have t := stp_ptT m
  unfold partM
  exact Stp.ite (t.trans (stp_readRowM _ _ _ _ _)) (Stp.ite (t.trans (stp_readRowM _ _ _ _ _)) (Stp.ite (t.trans (stp_readRowM _ _ _ _ _)) (Stp.ite (t.trans (stp_readRowM _ _ _ _ _)) (Stp.ite (t.trans (stp_dayM _ _)) (Stp.ite (t.trans (stp_saleM _ _)) (d.trans (stp_flM _ _ _)))))))
theorem stp_kD (m : Mem) : Stp m (kD m) := by
  have a : Stp m (kA m) := by
    unfold kA
    exact Stp.ite ((stp_numM m 1 500).trans (stp_flM _ _ _)) (stp_numM m 1 500)
  have b : Stp m (kB m) := by
    unfold kB
    exact Stp.ite (a.trans (stp_flM _ _ _)) a
  have c : Stp m (kC m) := by
    unfold kC
    exact Stp.ite (b.cell (by rw [mset_nka (by decide), mset_nka (by decide)])) b
  unfold kD
  exact Stp.ite (c.trans (Stp.at (skipF_le _ _ _))) c
theorem stp_kindsL : ∀ (n : Nat) (m : Mem), Stp m (kindsL n m)
  | 0, m => Stp.rfl m
  | n + 1, m => by
    rw [kindsL_s]
    exact Stp.ite ((stp_kD m).trans (stp_kindsL n _)) (stp_kD m)
/-- what tell hears: the whole of it -/
def startH (b : Nat) : Int := if 27 ≤ b ∧ b ≤ 34 then 99 else if 35 ≤ b ∧ b ≤ 42 then 10 else 0
def tl0 (mem : Mem) : Mem := fun a b => if a = 0 ∧ b = 8 then 0 else if a = 0 ∧ b = 9 then -1 else if a = 2 ∧ b < 459 then startH b else if a = 7 ∧ b < 4 then 0 else mem a b
def tl1 (m : Mem) : Mem := if ptW m 0 = true then ptT m else flM (ptD m) 1 (ptP m)
def goesP (m : Mem) : Bool := decide (m 0 9 = -1 ∧ sgn m (ptP m) = 59)
def stopP (m : Mem) : Mem := if m 0 9 = -1 then ptD m else m
def partsL : Nat → Mem → Mem
  | 0, m => m
  | n + 1, m => if goesP m = true then partsL n (partM (mset (ptD m) 0 8 (ptP m + 1))) else stopP m
theorem partsL_s (n : Nat) (m : Mem) : partsL (n + 1) m = if goesP m = true then partsL n (partM (mset (ptD m) 0 8 (ptP m + 1))) else stopP m := rfl
def tl3 (m : Mem) : Mem := if m 0 9 = -1 ∧ sgn m (ptP m) ≠ -1 then flM (stopP m) 1 (ptP m) else stopP m
def tl2 (mem : Mem) : Mem := kindsL 10 (tl1 (tl0 mem))
def tellH (mem : Mem) : Mem := tl3 (partsL 402 (tl2 mem))
theorem stp_tl1 (m : Mem) : Stp m (tl1 m) := Stp.ite (stp_ptT m) ((stp_ptD m).trans (stp_flM _ _ _))
theorem stp_stopP (m : Mem) : Stp m (stopP m) := Stp.ite (stp_ptD m) (Stp.rfl m)
theorem stp_partsL : ∀ (n : Nat) (m : Mem), Stp m (partsL n m)
  | 0, m => Stp.rfl m
  | n + 1, m => by
    rw [partsL_s]
    have d := stp_ptD m
    have e : ptD m 0 8 = ptP m := mset_eq _ _ _ _
    exact Stp.ite (((d.trans (Stp.at (by omega))).trans (stp_partM _)).trans (stp_partsL n _)) (stp_stopP m)
theorem stp_tellH (mem : Mem) (j : Nat) (h8 : j ≠ 8) (h9 : j ≠ 9) (h10 : j ≠ 10) : tellH mem 0 j = mem 0 j := by
  have a : Stp (tl0 mem) (tellH mem) := by
    unfold tellH tl3 tl2
    exact Stp.trans ((stp_tl1 _).trans ((stp_kindsL _ _).trans (stp_partsL 402 _))) (Stp.ite ((stp_stopP _).trans (stp_flM _ _ _)) (stp_stopP _))
  rw [a.2 j h8 h9 h10]
  unfold tl0
  rw [if_neg (by omega), if_neg (by omega), if_neg (by omega), if_neg (by omega)]
