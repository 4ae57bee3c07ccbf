/-! the reference: reading goes on, and leaves the other fields -/
def Rgo (m mv : Mem) : Prop := m 0 8 ≤ mv 0 8 ∧ ∀ j, j ≠ 8 → j ≠ 9 → j ≠ 10 → mv 0 j = m 0 j
theorem Rgo.rfl (m : Mem) : Rgo m m := ⟨Int.le_refl _, fun _ _ _ _ => Eq.refl _⟩
theorem Rgo.trans {a b c : Mem} (h : Rgo a b) (g : Rgo b c) : Rgo a c := ⟨Int.le_trans h.1 g.1, fun j x y z => (g.2 j x y z).trans (h.2 j x y z)⟩
theorem Rgo.cell {a b c : Mem} (h : Rgo a b) (e : c 0 = b 0) : Rgo a c := by
  unfold Rgo at h ⊢
  rw [e]; exact h
theorem Rgo.at {m : Mem} {v : Int} (h : m 0 8 ≤ v) : Rgo m (mset m 0 8 v) := ⟨by rw [mset_eq]; exact h, fun j x _ _ => mset_ne (fun q => x q.2)⟩
theorem Rgo.ite {a b c : Mem} {p : Prop} [Decidable p] (h : Rgo a b) (g : Rgo a c) : Rgo a (if p then b else c) := by
  by_cases q : p
  · rw [if_pos q]; exact h
  · rw [if_neg q]; exact g
theorem skipF_le (mem : Mem) : ∀ (n : Nat) (p : Int), p ≤ skipF mem n p
  | 0, p => Int.le_refl _
  | n + 1, p => by
    rw [skipF_s]
    by_cases g : sgn mem p = 32
    · rw [if_pos g]; have := skipF_le mem n (p + 1); omega
    · rw [if_neg g]; exact Int.le_refl _
theorem numL_le (mem : Mem) : ∀ (c : Nat) (p n : Int), p ≤ (numL mem c p n).1
  | 0, p, n => Int.le_refl _
  | c + 1, p, n => by
    rw [numL_s]
    by_cases g : 48 ≤ sgn mem p ∧ sgn mem p ≤ 57
    · rw [if_pos g]; have := numL_le mem c (p + 1) (min 100000 (10 * n + sgn mem p - 48)); omega
    · rw [if_neg g]; exact Int.le_refl _
theorem letN_le (mem : Mem) : ∀ (c : Nat) (p : Int), 0 ≤ letN mem c p
  | 0, p => Int.le_refl _
  | c + 1, p => by
    rw [letN_s]
    by_cases g : p < mem 0 7 ∧ 97 ≤ mem 6 p.toNat ∧ mem 6 p.toNat ≤ 122
    · rw [if_pos g]; have := letN_le mem c (p + 1); omega
    · rw [if_neg g]; exact Int.le_refl _
theorem rgo_flM (m : Mem) (k p : Int) : Rgo m (flM m k p) := by
  unfold flM
  refine Rgo.ite ⟨by rw [mset_ne (by decide)]; exact Int.le_refl _, fun j _ y _ => mset_ne (fun q => y q.2)⟩ (Rgo.rfl m)
theorem rgo_numM (m : Mem) (lo hi : Int) : Rgo m (numM m lo hi) := by
  obtain ⟨_, e2, e3, _, _⟩ := numM_at m lo hi
  refine ⟨?_, e2⟩
  rw [e3]
  have hs := skipF_le m 401 (m 0 8)
  unfold numR
  by_cases a : m 0 9 ≠ -1
  · rw [if_pos a]; exact Int.le_refl _
  · rw [if_neg a]
    by_cases b : 48 ≤ sgn m (skipF m 401 (m 0 8)) ∧ sgn m (skipF m 401 (m 0 8)) ≤ 57
    · rw [if_pos b]
      show m 0 8 ≤ (numL m 401 (skipF m 401 (m 0 8)) 0).1
      have := numL_le m 401 (skipF m 401 (m 0 8)) 0
      omega
    · rw [if_neg b]; exact hs
theorem rgo_rowL (s : Nat) (l : Int) : ∀ (c i : Nat) (m : Mem), Rgo m (rowL s l c i m)
  | 0, _, m => Rgo.rfl m
  | c + 1, i, m => by
    rw [rowL_s]
    exact Rgo.ite (((rgo_numM m l 99).cell (mset_nka (by decide))).trans (rgo_rowL s l c (i + 1) _)) (Rgo.rfl m)
theorem rgo_readRowM (m : Mem) (r : Nat) (p : Int) (s : Nat) (l : Int) : Rgo m (readRowM m r p s l) := by
  unfold readRowM
  exact ((Rgo.ite (rgo_flM m 3 p) (Rgo.rfl m)).cell (mset_nka (by decide))).trans (rgo_rowL s l _ _ _)
theorem rgo_qD (m : Mem) (c t : Int) : Rgo m (qD m c t) := by
  have a : Rgo m (qA m) := by
    unfold qA
    exact Rgo.ite ((rgo_numM m 1 500).trans (rgo_flM _ _ _)) (rgo_numM m 1 500)
  have b : Rgo m (qB m c) := by
    unfold qB
    exact Rgo.ite (a.trans (rgo_flM _ _ _)) a
  have d : Rgo m (qC m c t) := by
    unfold qC
    exact Rgo.ite (b.cell (mset_nka (by decide))) b
  unfold qD
  exact Rgo.ite (d.trans (Rgo.at (skipF_le _ _ _))) d
theorem rgo_pcL : ∀ (n : Nat) (c t g : Int) (m : Mem), Rgo m (pcL n c t g m).1
  | 0, _, _, _, m => Rgo.rfl m
  | n + 1, c, t, g, m => by
    rw [pcL_s]
    by_cases q : qMore m c t = true
    · rw [if_pos q]; exact (rgo_qD m c t).trans (rgo_pcL n _ _ _ _)
    · rw [if_neg q]; exact rgo_qD m c t
theorem rgo_saleM (m : Mem) (p : Int) : Rgo m (saleM m p) := by
  have a : Rgo m (sB m p) := by
    have x : Rgo m (sA m p) := Rgo.ite (rgo_flM _ _ _) (Rgo.rfl m)
    unfold sB
    exact Rgo.ite (x.trans (rgo_flM _ _ _)) x
  have hE : ∀ m : Mem, Rgo m (sE m) := fun m => by
    have c : Rgo m (sC m) := by
      have x : Rgo m (sC0 m) := (Rgo.rfl m).cell (mset_nka (by decide))
      unfold sC
      exact (x.trans (rgo_numM _ _ _)).cell (mset_nka (by decide))
    have cs : Rgo m (sCs m) := c.trans (Rgo.at (skipF_le _ _ _))
    have d : Rgo m (sD m) := by
      unfold sD
      exact Rgo.ite (Rgo.ite cs (cs.trans (rgo_flM _ _ _))) c
    unfold sE
    refine d.trans (Rgo.at ?_)
    split <;> omega
  have hG : ∀ m : Mem, Rgo m (sG m) := fun m => by
    have f : Rgo m (sF m).1 := (hE m).trans (rgo_pcL _ _ _ _ _)
    unfold sG
    exact Rgo.ite (f.trans (rgo_flM _ _ _)) f
  unfold saleM
  exact Rgo.ite ((a.trans (hG _)).cell (mset_nka (by decide))) a
theorem rgo_dayM (m : Mem) (p : Int) : Rgo m (dayM m p) := by
  unfold dayM
  exact (Rgo.ite (rgo_flM m 3 p) (Rgo.rfl m)).cell (mset_nka (by decide))
theorem rgo_ptD (m : Mem) : Rgo m (ptD m) := Rgo.at (skipF_le m 401 (m 0 8))
theorem rgo_ptT (m : Mem) : Rgo m (ptT m) := by
  refine (rgo_ptD m).trans (Rgo.at ?_)
  have e : ptD m 0 8 = ptP m := mset_eq _ _ _ _
  have h : 0 ≤ ptN m := letN_le _ _ _
  omega
theorem rgo_partM (m : Mem) : Rgo m (partM m) := by
  have d := rgo_ptD m
  have t := rgo_ptT m
  unfold partM
  exact Rgo.ite (t.trans (rgo_readRowM _ _ _ _ _)) (Rgo.ite (t.trans (rgo_readRowM _ _ _ _ _)) (Rgo.ite (t.trans (rgo_readRowM _ _ _ _ _)) (Rgo.ite (t.trans (rgo_readRowM _ _ _ _ _)) (Rgo.ite (t.trans (rgo_dayM _ _)) (Rgo.ite (t.trans (rgo_saleM _ _)) (d.trans (rgo_flM _ _ _)))))))
theorem rgo_kD (m : Mem) : Rgo m (kD m) := by
  have a : Rgo m (kA m) := by
    unfold kA
    exact Rgo.ite ((rgo_numM m 1 500).trans (rgo_flM _ _ _)) (rgo_numM m 1 500)
  have b : Rgo m (kB m) := by
    unfold kB
    exact Rgo.ite (a.trans (rgo_flM _ _ _)) a
  have c : Rgo m (kC m) := by
    unfold kC
    exact Rgo.ite (b.cell (by rw [mset_nka (by decide), mset_nka (by decide)])) b
  unfold kD
  exact Rgo.ite (c.trans (Rgo.at (skipF_le _ _ _))) c
theorem rgo_kindsL : ∀ (n : Nat) (m : Mem), Rgo m (kindsL n m)
  | 0, m => Rgo.rfl m
  | n + 1, m => by
    rw [kindsL_s]
    exact Rgo.ite ((rgo_kD m).trans (rgo_kindsL n _)) (rgo_kD m)
/-- what tell hears: the whole of it -/
def startH (b : Nat) : Int := if 27 ≤ b ∧ b ≤ 34 then 99 else if 35 ≤ b ∧ b ≤ 42 then 10 else 0
def tl0 (mem : Mem) : Mem := fun a b => if a = 0 ∧ b = 8 then 0 else if a = 0 ∧ b = 9 then -1 else if a = 2 ∧ b < 459 then startH b else if a = 7 ∧ b < 4 then 0 else mem a b
def tl1 (m : Mem) : Mem := if ptW m 0 = true then ptT m else flM (ptD m) 1 (ptP m)
def goesP (m : Mem) : Bool := decide (m 0 9 = -1 ∧ sgn m (ptP m) = 59)
def stopP (m : Mem) : Mem := if m 0 9 = -1 then ptD m else m
def partsL : Nat → Mem → Mem
  | 0, m => m
  | n + 1, m => if goesP m = true then partsL n (partM (mset (ptD m) 0 8 (ptP m + 1))) else stopP m
theorem partsL_s (n : Nat) (m : Mem) : partsL (n + 1) m = if goesP m = true then partsL n (partM (mset (ptD m) 0 8 (ptP m + 1))) else stopP m := rfl
def tl3 (m : Mem) : Mem := if m 0 9 = -1 ∧ sgn m (ptP m) ≠ -1 then flM (stopP m) 1 (ptP m) else stopP m
def tl2 (mem : Mem) : Mem := kindsL 10 (tl1 (tl0 mem))
def tellH (mem : Mem) : Mem := tl3 (partsL 402 (tl2 mem))
theorem rgo_tl1 (m : Mem) : Rgo m (tl1 m) := Rgo.ite (rgo_ptT m) ((rgo_ptD m).trans (rgo_flM _ _ _))
theorem rgo_stopP (m : Mem) : Rgo m (stopP m) := Rgo.ite (rgo_ptD m) (Rgo.rfl m)
theorem rgo_partsL : ∀ (n : Nat) (m : Mem), Rgo m (partsL n m)
  | 0, m => Rgo.rfl m
  | n + 1, m => by
    rw [partsL_s]
    have d := rgo_ptD m
    have e : ptD m 0 8 = ptP m := mset_eq _ _ _ _
    exact Rgo.ite (((d.trans (Rgo.at (by omega))).trans (rgo_partM _)).trans (rgo_partsL n _)) (rgo_stopP m)
theorem rgo_tellH (mem : Mem) (j : Nat) (h8 : j ≠ 8) (h9 : j ≠ 9) (h10 : j ≠ 10) : tellH mem 0 j = mem 0 j := by
  have a : Rgo (tl0 mem) (tellH mem) := by
    unfold tellH tl3 tl2
    exact Rgo.trans ((rgo_tl1 _).trans ((rgo_kindsL _ _).trans (rgo_partsL 402 _))) (Rgo.ite ((rgo_stopP _).trans (rgo_flM _ _ _)) (rgo_stopP _))
  rw [a.2 j h8 h9 h10]
  unfold tl0
  rw [if_neg (by omega), if_neg (by omega), if_neg (by omega), if_neg (by omega)]
