/-! what the reference reads of a text is nobody else's business: other cells may be what they like -/
def ov (u m : Mem) : Mem := fun a b => if a < 20 then m a b else u a b
theorem ov_lo {u m : Mem} {a : Nat} (h : a < 20) : ov u m a = m a := funext fun _ => if_pos h
theorem ov0 (u m : Mem) : ov u m 0 = m 0 := ov_lo (by decide)
theorem ov2 (u m : Mem) : ov u m 2 = m 2 := ov_lo (by decide)
theorem ov6 (u m : Mem) : ov u m 6 = m 6 := ov_lo (by decide)
theorem ov7 (u m : Mem) : ov u m 7 = m 7 := ov_lo (by decide)
theorem mset_ov {u m : Mem} {k : Nat} (h : k < 20) (j : Nat) (v : Int) : mset (ov u m) k j v = ov u (mset m k j v) := by
  funext a b
  unfold ov mset
  by_cases q : a = k ∧ b = j
  · rw [if_pos q, if_pos (by omega), if_pos q]
  · rw [if_neg q, if_neg q]
theorem mo0 (u m : Mem) (j : Nat) (v : Int) : mset (ov u m) 0 j v = ov u (mset m 0 j v) := mset_ov (by decide) j v
theorem mo2 (u m : Mem) (j : Nat) (v : Int) : mset (ov u m) 2 j v = ov u (mset m 2 j v) := mset_ov (by decide) j v
theorem mo7 (u m : Mem) (j : Nat) (v : Int) : mset (ov u m) 7 j v = ov u (mset m 7 j v) := mset_ov (by decide) j v
theorem ite_ov {u a b : Mem} {c : Prop} [Decidable c] : (if c then ov u a else ov u b) = ov u (if c then a else b) := by
  split <;> rfl
theorem sgn_ov (u m : Mem) (p : Int) : sgn (ov u m) p = sgn m p := by
  unfold sgn
  rw [ov0, ov6]
theorem skipF_ov (u m : Mem) : ∀ (n : Nat) (p : Int), skipF (ov u m) n p = skipF m n p
  | 0, _ => rfl
  | n + 1, p => by
    unfold skipF
    rw [sgn_ov, skipF_ov u m n]
theorem numL_ov (u m : Mem) : ∀ (c : Nat) (p n : Int), numL (ov u m) c p n = numL m c p n
  | 0, _, _ => rfl
  | c + 1, p, n => by
    unfold numL
    rw [sgn_ov, numL_ov u m c]
theorem letN_ov (u m : Mem) : ∀ (c : Nat) (p : Int), letN (ov u m) c p = letN m c p
  | 0, _ => rfl
  | c + 1, p => by
    unfold letN
    rw [ov0, ov6, letN_ov u m c]
theorem numR_ov (u m : Mem) (lo hi : Int) : numR (ov u m) lo hi = numR m lo hi := by
  unfold numR
  simp only [ov0, sgn_ov, skipF_ov, numL_ov]
theorem numM_ov (u m : Mem) (lo hi : Int) : numM (ov u m) lo hi = ov u (numM m lo hi) := by
  unfold numM
  rw [numR_ov, mo0, mo0, mo0]
theorem flM_ov (u m : Mem) (k p : Int) : flM (ov u m) k p = ov u (flM m k p) := by
  unfold flM
  rw [ov0, mo0, ite_ov]
theorem rowL_ov (u : Mem) (s : Nat) (l : Int) : ∀ (c i : Nat) (m : Mem), rowL s l c i (ov u m) = ov u (rowL s l c i m)
  | 0, _, _ => rfl
  | c + 1, i, m => by
    unfold rowL
    rw [ov0, numM_ov, numR_ov, mo2, rowL_ov u s l c, ite_ov]
theorem readRowM_ov (u m : Mem) (r : Nat) (p : Int) (s : Nat) (l : Int) : readRowM (ov u m) r p s l = ov u (readRowM m r p s l) := by
  unfold readRowM
  rw [ov2, ov7, flM_ov, ite_ov, mo7, rowL_ov]
theorem kA_ov (u m : Mem) : kA (ov u m) = ov u (kA m) := by
  unfold kA
  simp only [numM_ov, numR_ov, ov0, ov2, flM_ov, ite_ov]
theorem kB_ov (u m : Mem) : kB (ov u m) = ov u (kB m) := by
  unfold kB
  simp only [kA_ov, ov0, ov2, flM_ov, ite_ov]
theorem kC_ov (u m : Mem) : kC (ov u m) = ov u (kC m) := by
  unfold kC
  simp only [kB_ov, numR_ov, ov0, ov2, mo2, ite_ov]
theorem kD_ov (u m : Mem) : kD (ov u m) = ov u (kD m) := by
  unfold kD
  simp only [kC_ov, skipF_ov, ov0, mo0, ite_ov]
theorem kMore_ov (u m : Mem) : kMore (ov u m) = kMore m := by
  unfold kMore
  simp only [kC_ov, skipF_ov, sgn_ov, ov0]
theorem kindsL_ov (u : Mem) : ∀ (c : Nat) (m : Mem), kindsL c (ov u m) = ov u (kindsL c m)
  | 0, _ => rfl
  | c + 1, m => by
    rw [kindsL_s, kindsL_s, kMore_ov, kD_ov, kindsL_ov u c, ite_ov]
theorem qV_ov (u m : Mem) : qV (ov u m) = qV m := by
  unfold qV
  rw [numR_ov]
theorem qK_ov (u m : Mem) : qK (ov u m) = qK m := by
  unfold qK
  rw [numM_ov, qV_ov, ov2]
theorem qA_ov (u m : Mem) : qA (ov u m) = ov u (qA m) := by
  unfold qA
  simp only [numM_ov, qK_ov, ov0, flM_ov, ite_ov]
theorem qB_ov (u m : Mem) (c : Int) : qB (ov u m) c = ov u (qB m c) := by
  unfold qB
  simp only [qA_ov, ov0, flM_ov, ite_ov]
theorem qC_ov (u m : Mem) (c t : Int) : qC (ov u m) c t = ov u (qC m c t) := by
  unfold qC
  simp only [qB_ov, qK_ov, ov0, ov2, mo2, ite_ov]
theorem qD_ov (u m : Mem) (c t : Int) : qD (ov u m) c t = ov u (qD m c t) := by
  unfold qD
  simp only [qC_ov, skipF_ov, ov0, mo0, ite_ov]
theorem qMore_ov (u m : Mem) (c t : Int) : qMore (ov u m) c t = qMore m c t := by
  unfold qMore
  simp only [qC_ov, skipF_ov, sgn_ov, ov0]
theorem pcL_ov (u : Mem) : ∀ (n : Nat) (c t g : Int) (m : Mem), pcL n c t g (ov u m) = (ov u (pcL n c t g m).1, (pcL n c t g m).2)
  | 0, _, _, _, _ => rfl
  | n + 1, c, t, g, m => by
    rw [pcL_s, pcL_s, qMore_ov, qV_ov, qD_ov, pcL_ov u n]
    by_cases q : qMore m c t = true
    · rw [if_pos q, if_pos q]
    · rw [if_neg q, if_neg q]
theorem sA_ov (u m : Mem) (p : Int) : sA (ov u m) p = ov u (sA m p) := by
  unfold sA
  simp only [ov2, flM_ov, ite_ov]
theorem sB_ov (u m : Mem) (p : Int) : sB (ov u m) p = ov u (sB m p) := by
  unfold sB
  simp only [sA_ov, ov2, flM_ov, ite_ov]
theorem sTo_ov (u m : Mem) : sTo (ov u m) = sTo m := by
  unfold sTo
  rw [ov2]
theorem sC0_ov (u m : Mem) : sC0 (ov u m) = ov u (sC0 m) := by
  unfold sC0
  rw [sTo_ov, ov2, mo2]
theorem sC_ov (u m : Mem) : sC (ov u m) = ov u (sC m) := by
  unfold sC
  rw [sTo_ov, sC0_ov, numM_ov, numR_ov, mo2]
theorem sCs_ov (u m : Mem) : sCs (ov u m) = ov u (sCs m) := by
  unfold sCs
  rw [sC_ov, ov0, skipF_ov, mo0]
theorem sD_ov (u m : Mem) : sD (ov u m) = ov u (sD m) := by
  unfold sD
  simp only [sC_ov, sCs_ov, skipF_ov, sgn_ov, ov0, flM_ov, ite_ov]
theorem sE_ov (u m : Mem) : sE (ov u m) = ov u (sE m) := by
  unfold sE
  rw [sD_ov, ov0, mo0]
theorem sF_ov (u m : Mem) : sF (ov u m) = (ov u (sF m).1, (sF m).2) := by
  unfold sF
  rw [sTo_ov, sE_ov, pcL_ov]
theorem sG_ov (u m : Mem) : sG (ov u m) = ov u (sG m) := by
  unfold sG
  simp only [sF_ov, sTo_ov, ov0, ov2, flM_ov, ite_ov]
theorem saleM_ov (u m : Mem) (p : Int) : saleM (ov u m) p = ov u (saleM m p) := by
  unfold saleM
  simp only [sB_ov, sG_ov, ov0, ov2, mo2, ite_ov]
theorem ptP_ov (u m : Mem) : ptP (ov u m) = ptP m := by
  unfold ptP
  rw [ov0, skipF_ov]
theorem ptD_ov (u m : Mem) : ptD (ov u m) = ov u (ptD m) := by
  unfold ptD
  rw [ptP_ov, mo0]
theorem ptN_ov (u m : Mem) : ptN (ov u m) = ptN m := by
  unfold ptN
  rw [ptD_ov, ptP_ov, letN_ov]
theorem ptW_ov (u m : Mem) (w : Nat) : ptW (ov u m) w = ptW m w := by
  unfold ptW spB
  rw [ptD_ov, ptP_ov, ptN_ov, ov6]
theorem ptT_ov (u m : Mem) : ptT (ov u m) = ov u (ptT m) := by
  unfold ptT
  rw [ptD_ov, ptP_ov, ptN_ov, mo0]
theorem dayM_ov (u m : Mem) (p : Int) : dayM (ov u m) p = ov u (dayM m p) := by
  unfold dayM
  rw [ov2, flM_ov, ite_ov, mo2]
theorem partM_ov (u m : Mem) : partM (ov u m) = ov u (partM m) := by
  unfold partM
  simp only [ptW_ov, ptT_ov, ptP_ov, ptD_ov, readRowM_ov, dayM_ov, saleM_ov, flM_ov, ite_ov]
theorem tl1_ov (u m : Mem) : tl1 (ov u m) = ov u (tl1 m) := by
  unfold tl1
  simp only [ptW_ov, ptT_ov, ptP_ov, ptD_ov, flM_ov, ite_ov]
theorem goesP_ov (u m : Mem) : goesP (ov u m) = goesP m := by
  unfold goesP
  simp only [ptP_ov, sgn_ov, ov0]
theorem stopP_ov (u m : Mem) : stopP (ov u m) = ov u (stopP m) := by
  unfold stopP
  simp only [ptD_ov, ov0, ite_ov]
theorem partsL_ov (u : Mem) : ∀ (n : Nat) (m : Mem), partsL n (ov u m) = ov u (partsL n m)
  | 0, _ => rfl
  | n + 1, m => by
    rw [partsL_s, partsL_s, goesP_ov, ptD_ov, ptP_ov, mo0, partM_ov, partsL_ov u n, stopP_ov, ite_ov]
theorem tl3_ov (u m : Mem) : tl3 (ov u m) = ov u (tl3 m) := by
  unfold tl3
  simp only [stopP_ov, ptP_ov, sgn_ov, ov0, flM_ov, ite_ov]
theorem tl0_ov (u m : Mem) : tl0 (ov u m) = ov u (tl0 m) := by
  funext a b
  unfold tl0 ov
  by_cases h : a < 20
  · rw [if_pos h, if_pos h]
  · rw [if_neg h, if_neg h, if_neg (by omega), if_neg (by omega), if_neg (by omega), if_neg (by omega)]
theorem tellH_ov (u m : Mem) : tellH (ov u m) = ov u (tellH m) := by
  unfold tellH tl2
  rw [tl0_ov, tl1_ov, kindsL_ov, partsL_ov, tl3_ov]
theorem tellH_low {m m1 : Mem} (h : ∀ a, a < 20 → m1 a = m a) {a : Nat} (ha : a < 20) : tellH m1 a = tellH m a := by
  have e : m1 = ov m1 m := by
    funext c b
    unfold ov
    by_cases q : c < 20
    · rw [if_pos q, h c q]
    · rw [if_neg q]
  rw [e, tellH_ov, ov_lo ha]
