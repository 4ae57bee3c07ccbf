/-! sales drawn: what they add to a row; the class -/
theorem iushr16_bd (x : Int) : 0 ≤ iushr x 16 ∧ iushr x 16 ≤ 65535 := by
  have e : iushr x 16 = ((Int32.ofInt x).toUInt32 >>> (16 : UInt32)).toBitVec.toInt := rfl
  have b : ((Int32.ofInt x).toUInt32 >>> (16 : UInt32)).toBitVec.toNat < 65536 := by
    have h := (Int32.ofInt x).toUInt32.toNat_lt
    show ((Int32.ofInt x).toUInt32 >>> (16 : UInt32)).toNat < 65536
    rw [UInt32.toNat_shiftRight, Nat.shiftRight_eq_div_pow]
    have k : (16 : UInt32).toNat % 32 = 16 := rfl
    rw [k]
    omega
  rw [e, BitVec.toInt_eq_toNat_of_lt (by omega)]
  omega
theorem tmod_bd {x y : Int} (hx : 0 ≤ x) (hy : 0 < y) : 0 ≤ x.tmod y ∧ x.tmod y < y := ⟨Int.tmod_nonneg y hx, Int.tmod_lt_of_pos x hy⟩
/-- the first kind from k on that is worth p, or the last -/
def kdF (v : Nat → Int) (p : Int) : Nat → Nat → Nat
  | 0, k => k
  | m + 1, k => if v k < p then kdF v p m (k + 1) else k
theorem kdF_s (v : Nat → Int) (p : Int) (m k : Nat) : kdF v p (m + 1) k = if v k < p then kdF v p m (k + 1) else k := rfl
theorem kdF_bd {v : Nat → Int} {p : Int} : ∀ (m k : Nat), k ≤ kdF v p m k ∧ kdF v p m k ≤ k + m ∧ (p ≤ v (kdF v p m k) ∨ kdF v p m k = k + m)
  | 0, k => ⟨Nat.le_refl _, Nat.le_refl _, Or.inr rfl⟩
  | m + 1, k => by
    rw [kdF_s]
    by_cases g : v k < p
    · rw [if_pos g]
      have := kdF_bd (v := v) (p := p) m (k + 1)
      omega
    · rw [if_neg g]
      exact ⟨Nat.le_refl _, by omega, Or.inl (by omega)⟩
theorem kdF_congr {v w : Nat → Int} {p : Int} : ∀ (m k : Nat), (∀ i, k ≤ i → i < k + m → v i = w i) → kdF v p m k = kdF w p m k
  | 0, _, _ => rfl
  | m + 1, k, h => by rw [kdF_s, kdF_s, h k (by omega) (by omega), kdF_congr m (k + 1) (fun i h1 h2 => h i (by omega) (by omega))]
/-- a sale of a price on the last day, paid with the fewest of the kind that is drawn for it -/
def drwK (h : Nat → Int) (p : Int) : Nat := kdF (fun i => h (3 + i)) p (h 0 - 1).toNat 0
def drwC (h : Nat → Int) (p : Int) : Int := if p ≤ h (3 + drwK h p) then 1 else 2
def addS (h : Nat → Int) (p : Int) : Nat → Int := fun b => if b = 59 + 10 * (h 2).toNat then h 1 - 1 else if b = 60 + 10 * (h 2).toNat then p else if 61 + 10 * (h 2).toNat ≤ b ∧ b < 69 + 10 * (h 2).toNat then (if b = 61 + 10 * (h 2).toNat + drwK h p then drwC h p else 0) else if b = 2 then h 2 + 1 else h b
theorem addS_at (h : Nat → Int) (p : Int) {b : Nat} (h2 : b ≠ 2) (hb : b < 59 + 10 * (h 2).toNat) : addS h p b = h b := by
  unfold addS
  rw [if_neg (by omega), if_neg (by omega), if_neg (by omega), if_neg h2]
theorem addS_2 (h : Nat → Int) (p : Int) : addS h p 2 = h 2 + 1 := by
  unfold addS
  rw [if_neg (by omega), if_neg (by omega), if_neg (by omega), if_pos rfl]
theorem addS_new (h : Nat → Int) (p : Int) : sDay (addS h p) (h 2).toNat = h 1 - 1 ∧ sPrice (addS h p) (h 2).toNat = p ∧ ∀ k : Nat, k < 8 → sGiven (addS h p) (h 2).toNat k = if k = drwK h p then drwC h p else 0 := by
  refine ⟨?_, ?_, fun k hk => ?_⟩
  · show addS h p (59 + 10 * (h 2).toNat) = _
    unfold addS
    rw [if_pos rfl]
  · show addS h p (60 + 10 * (h 2).toNat) = _
    unfold addS
    rw [if_neg (by omega), if_pos rfl]
  · show addS h p (61 + 10 * (h 2).toNat + k) = _
    unfold addS
    rw [if_neg (by omega), if_neg (by omega), if_pos (by omega)]
    by_cases e : k = drwK h p
    · rw [if_pos (by omega), if_pos e]
    · rw [if_neg (by omega), if_neg e]
theorem addS_old (h : Nat → Int) (p : Int) {s : Nat} (hs : (s : Int) < h 2) : sDay (addS h p) s = sDay h s ∧ sPrice (addS h p) s = sPrice h s ∧ ∀ k : Nat, k < 8 → sGiven (addS h p) s k = sGiven h s k := by
  refine ⟨addS_at h p (by omega) (by omega), addS_at h p (by omega) (by omega), fun k hk => addS_at h p (by omega) (by omega)⟩
theorem addS_end {h : Nat → Int} {p d : Int} (h2 : 0 ≤ h 2) : endF (addS h p) d = endF h d + (if h 1 - 1 ≤ d then 1 else 0) := by
  unfold endF
  rw [addS_2, show (h 2 + 1).toNat = (h 2).toNat + 1 by omega]
  show sumN (fun s => if sDay (addS h p) s ≤ d then (1 : Int) else 0) (h 2).toNat + (if sDay (addS h p) (h 2).toNat ≤ d then 1 else 0) = _
  rw [(addS_new h p).1, sumN_congr (g := fun s => if sDay h s ≤ d then (1 : Int) else 0) (fun s hs => by rw [(addS_old h p (s := s) (by omega)).1])]
theorem sumN_one {g : Nat → Int} {c : Int} {j : Nat} : ∀ {n : Nat}, sumN (fun k => (if k = j then c else 0) * g k) n = if j < n then c * g j else 0
  | 0 => by rw [if_neg (by omega)]; rfl
  | n + 1 => by
    show sumN (fun k => (if k = j then c else 0) * g k) n + (if n = j then c else 0) * g n = _
    rw [sumN_one (n := n)]
    by_cases e : n = j
    · subst e
      rw [if_neg (by omega), if_pos rfl, if_pos (by omega), Int.zero_add]
    · rw [if_neg e, Int.zero_mul, Int.add_zero]
      by_cases q : j < n
      · rw [if_pos q, if_pos (by omega)]
      · rw [if_neg q, if_neg (by omega)]
theorem drw_bd {h : Nat → Int} {p : Int} (hG : GR h) (h0 : 1 ≤ h 0) (hp : 1 ≤ p ∧ p ≤ 2 * h (3 + (h 0 - 1).toNat)) : (drwK h p : Int) < h 0 ∧ (p ≤ h (3 + drwK h p) ∨ p ≤ 2 * h (3 + drwK h p)) ∧ (drwC h p = 1 ∨ drwC h p = 2) ∧ 0 ≤ drwC h p * h (3 + drwK h p) - p ∧ drwC h p * h (3 + drwK h p) - p ≤ 500 := by
  have g0 := hG.1
  obtain ⟨k1, k2, k3⟩ := kdF_bd (v := fun i => h (3 + i)) (p := p) (h 0 - 1).toNat 0
  have ek : drwK h p = kdF (fun i => h (3 + i)) p (h 0 - 1).toNat 0 := rfl
  rw [← ek] at k1 k2 k3
  have kb : (drwK h p : Int) < h 0 := by omega
  have vb := hG.2.2.2.1 (drwK h p) (by omega)
  have hq : p ≤ 2 * h (3 + drwK h p) := by
    rcases k3 with q | q
    · have q1 : p ≤ h (3 + drwK h p) := q
      omega
    · rw [q, Nat.zero_add]; exact hp.2
  have ec : drwC h p = if p ≤ h (3 + drwK h p) then 1 else 2 := rfl
  refine ⟨kb, Or.inr hq, ?_, ?_⟩
  · rw [ec]; split <;> omega
  · rw [ec]
    by_cases g : p ≤ h (3 + drwK h p)
    · rw [if_pos g]; omega
    · rw [if_neg g]; omega
theorem GR.sold {h : Nat → Int} {p : Int} (hG : GR h) (h0 : 1 ≤ h 0) (h1 : 1 ≤ h 1) (h2 : h 2 < 40) (hp : 1 ≤ p ∧ p ≤ 2 * h (3 + (h 0 - 1).toNat)) : GR (addS h p) := by
  obtain ⟨d1, d2, d3, d4, d5⟩ := drw_bd hG h0 hp
  obtain ⟨n1, n2, n3⟩ := addS_new h p
  have vl := hG.2.2.2.1 (h 0 - 1).toNat (by have := hG.1; omega)
  obtain ⟨g0, g1, g2, g3, g4, g5, g6, g7, g8, g9⟩ := hG
  have lo : ∀ b, b ≠ 2 → b < 59 → addS h p b = h b := fun b b1 b2 => addS_at h p b1 (by omega)
  have e0 := lo 0 (by decide) (by decide)
  have e1 := lo 1 (by decide) (by decide)
  have e2 := addS_2 h p
  refine ⟨by rw [e0]; exact g0, by rw [e1]; exact g1, by rw [e2]; omega, fun i hi => by rw [lo _ (by omega) (by omega)]; exact g3 i hi, fun i hi => ?_, fun r hr k hk => by rw [lo _ (by omega) (by omega)]; exact g5 r hr k hk, fun i hi => ?_, fun s hs => ?_, fun s hs => ?_, ?_⟩
  · rw [e0] at hi; rw [lo _ (by omega) (by omega)]; exact g4 i hi
  · rw [e0] at hi; rw [lo _ (by omega) (by omega)]; exact g6 i hi
  · rw [e2] at hs
    have vv : ∀ k, k < (h 0).toNat → addS h p (3 + k) = h (3 + k) := fun k hk => lo _ (by omega) (by omega)
    by_cases q : (s : Int) < h 2
    · obtain ⟨o1, o2, o3⟩ := addS_old h p q
      rw [o1, o2, e1]
      refine ⟨(g7 s q).1, (g7 s q).2.1, fun k hk => by rw [o3 k hk]; exact (g7 s q).2.2.1 k hk, ?_⟩
      have ea : abvS (addS h p) s = abvS h s := by
        unfold abvS
        rw [e0, o2, sumN_congr (g := fun k => sGiven h s k * h (3 + k)) (fun k hk => by rw [o3 k (by omega), vv k hk])]
      rw [ea]; exact (g7 s q).2.2.2
    · obtain rfl : s = (h 2).toNat := by omega
      rw [n1, n2, e1]
      refine ⟨by omega, by omega, fun k hk => by rw [n3 k hk]; split <;> omega, ?_⟩
      have ea : abvS (addS h p) (h 2).toNat = drwC h p * h (3 + drwK h p) - p := by
        unfold abvS
        rw [e0, n2, sumN_congr (g := fun k => (if k = drwK h p then drwC h p else 0) * h (3 + k)) (fun k hk => by rw [n3 k (by omega), vv k hk]), sumN_one (g := fun k => h (3 + k)), if_pos (by omega)]
      rw [ea]; omega
  · rw [e2] at hs
    rw [(addS_old h p (s := s) (by omega)).1]
    by_cases q : (s : Int) + 1 < h 2
    · rw [(addS_old h p (s := s + 1) (by omega)).1]; exact g8 s q
    · rw [show s + 1 = (h 2).toNat by omega, n1]
      have := (g7 s (by omega)).1
      omega
  · rw [e0, sumN_congr (g := fun k => h (43 + k)) (fun k hk => lo _ (by omega) (by omega))]; exact g9
/-- a new day -/
def bump (f : Nat → Int) : Nat → Int := fun b => if b = 1 then f 1 + 1 else f b
theorem bump_ne (f : Nat → Int) {b : Nat} (h : b ≠ 1) : bump f b = f b := if_neg h
theorem bump_end (f : Nat → Int) (d : Int) : endF (bump f) d = endF f d := by
  unfold endF
  rw [bump_ne f (by decide)]
  refine sumN_congr (fun s hs => ?_)
  have e : sDay (bump f) s = sDay f s := bump_ne f (by omega)
  rw [e]
theorem GR.dawn {f : Nat → Int} (hG : GR f) (h1 : f 1 < 5) : GR (bump f) := by
  obtain ⟨g0, g1, g2, g3, g4, g5, g6, g7, g8, g9⟩ := hG
  have e1 : bump f 1 = f 1 + 1 := if_pos rfl
  have lo : ∀ b, b ≠ 1 → bump f b = f b := fun b hb => bump_ne f hb
  have e0 := lo 0 (by decide)
  have e2 := lo 2 (by decide)
  refine ⟨by rw [e0]; exact g0, by rw [e1]; omega, by rw [e2]; exact g2, fun i hi => by rw [lo _ (by omega)]; exact g3 i hi, fun i hi => ?_, fun r hr k hk => by rw [lo _ (by omega)]; exact g5 r hr k hk, fun i hi => ?_, fun s hs => ?_, fun s hs => ?_, ?_⟩
  · rw [e0] at hi; rw [lo _ (by omega)]; exact g4 i hi
  · rw [e0] at hi; rw [lo _ (by omega)]; exact g6 i hi
  · rw [e2] at hs
    have o1 : sDay (bump f) s = sDay f s := lo _ (by omega)
    have o2 : sPrice (bump f) s = sPrice f s := lo _ (by omega)
    have o3 : ∀ k, sGiven (bump f) s k = sGiven f s k := fun k => lo _ (by omega)
    have ea : abvS (bump f) s = abvS f s := by
      unfold abvS
      rw [e0, o2, sumN_congr (g := fun k => sGiven f s k * f (3 + k)) (fun k hk => by rw [o3 k, lo (3 + k) (by omega)])]
    rw [o1, o2, ea, e1]
    have q := g7 s hs
    exact ⟨by omega, q.2.1, fun k hk => by rw [o3 k]; exact q.2.2.1 k hk, q.2.2.2⟩
  · rw [e2] at hs
    have o1 : ∀ s, sDay (bump f) s = sDay f s := fun s => lo _ (by omega)
    rw [o1, o1]; exact g8 s hs
  · rw [e0, sumN_congr (g := fun k => f (43 + k)) (fun k hk => lo _ (by omega))]; exact g9
/-- so many sales drawn, and the seed behind them -/
def drwG (h : Nat → Int) (M x : Int) : Nat → (Nat → Int) × Int
  | 0 => (h, x)
  | i + 1 => (addS (drwG h M x i).1 ((iushr ((drwG h M x i).2 * 1103515245 + 12345) 16).tmod M + 1), (drwG h M x i).2 * 1103515245 + 12345)
theorem drwG_s (h : Nat → Int) (M x : Int) (i : Nat) : drwG h M x (i + 1) = (addS (drwG h M x i).1 ((iushr ((drwG h M x i).2 * 1103515245 + 12345) 16).tmod M + 1), (drwG h M x i).2 * 1103515245 + 12345) := rfl
theorem drwG_ok {h : Nat → Int} {M x : Int} (hG : GR h) (h0 : 1 ≤ h 0) (h1 : 1 ≤ h 1) (hM : M = 2 * h (3 + (h 0 - 1).toNat)) : ∀ i : Nat, h 2 + i ≤ 40 → GR (drwG h M x i).1 ∧ (drwG h M x i).1 2 = h 2 + i ∧ ∀ b, b ≠ 2 → b < 59 → (drwG h M x i).1 b = h b
  | 0, _ => ⟨hG, by show h 2 = h 2 + ((0 : Nat) : Int); omega, fun _ _ _ => rfl⟩
  | i + 1, hi => by
    obtain ⟨a1, a2, a3⟩ := drwG_ok (h := h) (M := M) (x := x) hG h0 h1 hM i (by omega)
    have b0 := a3 0 (by decide) (by decide)
    have b1 := a3 1 (by decide) (by decide)
    have g0 := hG.1
    have v1 := hG.2.2.2.2.1 (h 0 - 1).toNat (by omega)
    have u := iushr16_bd ((drwG h M x i).2 * 1103515245 + 12345)
    have t := tmod_bd (x := iushr ((drwG h M x i).2 * 1103515245 + 12345) 16) (y := M) u.1 (by omega)
    rw [drwG_s]
    refine ⟨GR.sold a1 (by omega) (by omega) (by omega) (by rw [b0, a3 _ (by omega) (by omega), ← hM]; omega), ?_, fun b c1 c2 => ?_⟩
    · show addS _ _ 2 = _
      rw [addS_2, a2]; omega
    · show addS _ _ b = _
      rw [addS_at _ _ c1 (by omega), a3 b c1 c2]
theorem RS.sold {m mv : Mem} {h : Nat → Int} {p : Int} (hR : RS m 21 h) (hG : GR h) (h1 : 1 ≤ h 1) (e : ∀ c, c ≠ 29 → c ≠ 30 → c ≠ 31 → mv c = m c) (e30 : ∀ j : Nat, j < 40 → mv 30 j = if j = (h 2).toNat then p else m 30 j) (e31 : ∀ s : Nat, s < 40 → ∀ k : Nat, k < 8 → mv 31 (8 * s + k) = if s = (h 2).toNat then (if k = drwK h p then drwC h p else 0) else m 31 (8 * s + k)) (e29 : ∀ j : Nat, mv 29 j = if j = (h 1 - 1).toNat then m 29 j + 1 else m 29 j) (h2 : h 2 < 40) : RS mv 21 (addS h p) := by
  obtain ⟨r1, r2, r3, r4, r5⟩ := hR
  have g2 := hG.2.2.1
  have lo : ∀ b, b ≠ 2 → b < 59 → addS h p b = h b := fun b b1 b2 => addS_at h p b1 (by omega)
  refine ⟨?_, ?_, fun r hr k hk => ?_, fun s hs => ?_, fun d hd => ?_⟩
  · rw [e 21 (by decide) (by decide) (by decide), lo 0 (by decide) (by decide)]; exact r1
  · rw [e 21 (by decide) (by decide) (by decide), lo 1 (by decide) (by decide)]; exact r2
  · rw [e _ (by omega) (by omega) (by omega), lo _ (by omega) (by omega)]; exact r3 r hr k hk
  · rw [addS_2] at hs
    show mv 30 s = _ ∧ ∀ k : Nat, k < 8 → mv 31 (8 * s + k) = _
    rw [e30 s (by omega)]
    by_cases q : (s : Int) < h 2
    · obtain ⟨o1, o2, o3⟩ := addS_old h p q
      rw [if_neg (by omega), o2]
      exact ⟨(r4 s q).1, fun k hk => by rw [e31 s (by omega) k hk, if_neg (by omega), o3 k hk]; exact (r4 s q).2 k hk⟩
    · obtain rfl : s = (h 2).toNat := by omega
      obtain ⟨n1, n2, n3⟩ := addS_new h p
      rw [if_pos rfl, n2]
      exact ⟨rfl, fun k hk => by rw [e31 _ (by omega) k hk, if_pos rfl, n3 k hk]⟩
  · rw [lo 1 (by decide) (by decide)] at hd
    show mv 29 d = _
    rw [e29, addS_end g2.1]
    have q := r5 d hd
    by_cases c : d = (h 1 - 1).toNat
    · rw [if_pos c, if_pos (by omega)]
      have q2 : m 29 d = endF h d := q
      rw [q2]
    · rw [if_neg c, if_neg (by omega), Int.add_zero]; exact q
theorem all_end {f : Nat → Int} (hG : GR f) {d : Int} (hd : f 1 - 1 ≤ d) : endF f d = f 2 := by
  obtain ⟨i1, i2, i3⟩ := endF_iff hG d
  by_cases z : endF f d = f 2
  · exact z
  · have q := (hG.2.2.2.2.2.2.2.1 (endF f d).toNat (by omega)).1
    have := (i1 (endF f d).toNat (by omega)).mp (by omega)
    omega
theorem RS.all {m : Mem} {f : Nat → Int} (h : RS m 21 f) (hG : GR f) : fstD (m 29) (f 1) = f 2 := by
  have g1 := hG.2.1
  have q := h.fst hG (d := f 1) (by omega)
  have q2 : fstD (m 29) (f 1) = dayA f (f 1) := q
  rw [q2]
  unfold dayA
  by_cases z : f 1 < 1
  · rw [if_pos z]
    by_cases y : f 2 = 0
    · exact y.symm
    · have := (hG.2.2.2.2.2.2.2.1 0 (by have := hG.2.2.1; omega)).1
      omega
  · rw [if_neg z, all_end hG (Int.le_refl _)]
theorem RS.day {m : Mem} {f : Nat → Int} (h : RS m 21 f) (hG : GR f) (h1 : f 1 < 5) {mv : Mem} (e : mv = mset (mset m 29 (m 21 1).toNat (fstD (m 29) (m 21 1))) 21 1 (m 21 1 + 1)) : RS mv 21 (bump f) := by
  have ha := h.all hG
  have g1 := hG.2.1
  obtain ⟨r1, r2, r3, r4, r5⟩ := h
  have o : ∀ c, c ≠ 21 → c ≠ 29 → mv c = m c := fun c c1 c2 => by rw [e, mset_nka c1, mset_nka c2]
  refine ⟨?_, ?_, fun r hr k hk => ?_, fun s hs => ?_, fun d hd => ?_⟩
  · rw [e, mset_ne (by omega), mset_nk (by decide), bump_ne f (by decide)]; exact r1
  · rw [e, mset_eq, r2]; exact (if_pos rfl).symm
  · rw [o _ (by omega) (by omega), bump_ne f (by omega)]; exact r3 r hr k hk
  · rw [bump_ne f (by decide)] at hs
    rw [o _ (by omega) (by omega), o _ (by omega) (by omega)]
    have a1 : sPrice (bump f) s = sPrice f s := bump_ne f (by omega)
    have a2 : ∀ k, sGiven (bump f) s k = sGiven f s k := fun k => bump_ne f (by omega)
    rw [a1]
    exact ⟨(r4 s hs).1, fun k hk => by rw [a2 k]; exact (r4 s hs).2 k hk⟩
  · have hd2 : (d : Int) < f 1 + 1 := by
      have : bump f 1 = f 1 + 1 := if_pos rfl
      rw [this] at hd; exact hd
    show mv 29 d = _
    rw [bump_end, e, mset_nk (by decide), r2]
    by_cases c : d = (f 1).toNat
    · subst c
      rw [mset_eq, ha]
      exact (all_end hG (by omega)).symm
    · rw [mset_ne (fun q => c q.2)]
      exact r5 d (by omega)
theorem dX7_addDrawnSale_0 : decode cX7_addDrawnSale 0 = .ok (.aload_n 0, 1) := by decide +kernel
theorem dX7_addDrawnSale_1 : decode cX7_addDrawnSale 1 = .ok (.getfield 10, 3) := by decide +kernel
theorem dX7_addDrawnSale_4 : decode cX7_addDrawnSale 4 = .ok (.iload_n 1, 1) := by decide +kernel
theorem dX7_addDrawnSale_5 : decode cX7_addDrawnSale 5 = .ok (.invokevirtual 193, 3) := by decide +kernel
theorem dX7_addDrawnSale_8 : decode cX7_addDrawnSale 8 = .ok (.istore_n 2, 1) := by decide +kernel
theorem dX7_addDrawnSale_9 : decode cX7_addDrawnSale 9 = .ok (.iload_n 2, 1) := by decide +kernel
theorem dX7_addDrawnSale_10 : decode cX7_addDrawnSale 10 = .ok (.ifCond .ge 4, 3) := by decide +kernel
theorem dX7_addDrawnSale_14 : decode cX7_addDrawnSale 14 = .ok (.iconst 0, 1) := by decide +kernel
theorem dX7_addDrawnSale_15 : decode cX7_addDrawnSale 15 = .ok (.istore_n 3, 1) := by decide +kernel
theorem dX7_addDrawnSale_16 : decode cX7_addDrawnSale 16 = .ok (.iload_n 3, 1) := by decide +kernel
theorem dX7_addDrawnSale_17 : decode cX7_addDrawnSale 17 = .ok (.aload_n 0, 1) := by decide +kernel
theorem dX7_addDrawnSale_18 : decode cX7_addDrawnSale 18 = .ok (.getfield 10, 3) := by decide +kernel
theorem dX7_addDrawnSale_21 : decode cX7_addDrawnSale 21 = .ok (.getfield 103, 3) := by decide +kernel
theorem dX7_addDrawnSale_24 : decode cX7_addDrawnSale 24 = .ok (.iconst 1, 1) := by decide +kernel
theorem dX7_addDrawnSale_25 : decode cX7_addDrawnSale 25 = .ok (.isub, 1) := by decide +kernel
theorem dX7_addDrawnSale_26 : decode cX7_addDrawnSale 26 = .ok (.if_icmp .ge 22, 3) := by decide +kernel
theorem dX7_addDrawnSale_29 : decode cX7_addDrawnSale 29 = .ok (.aload_n 0, 1) := by decide +kernel
theorem dX7_addDrawnSale_30 : decode cX7_addDrawnSale 30 = .ok (.getfield 10, 3) := by decide +kernel
theorem dX7_addDrawnSale_33 : decode cX7_addDrawnSale 33 = .ok (.getfield 186, 3) := by decide +kernel
theorem dX7_addDrawnSale_36 : decode cX7_addDrawnSale 36 = .ok (.iload_n 3, 1) := by decide +kernel
theorem dX7_addDrawnSale_37 : decode cX7_addDrawnSale 37 = .ok (.iaload, 1) := by decide +kernel
theorem dX7_addDrawnSale_38 : decode cX7_addDrawnSale 38 = .ok (.iload_n 1, 1) := by decide +kernel
theorem dX7_addDrawnSale_39 : decode cX7_addDrawnSale 39 = .ok (.if_icmp .ge 9, 3) := by decide +kernel
theorem dX7_addDrawnSale_42 : decode cX7_addDrawnSale 42 = .ok (.iinc 3 1, 3) := by decide +kernel
theorem dX7_addDrawnSale_45 : decode cX7_addDrawnSale 45 = .ok (.goto (-29), 3) := by decide +kernel
theorem dX7_addDrawnSale_48 : decode cX7_addDrawnSale 48 = .ok (.aload_n 0, 1) := by decide +kernel
theorem dX7_addDrawnSale_49 : decode cX7_addDrawnSale 49 = .ok (.getfield 10, 3) := by decide +kernel
theorem dX7_addDrawnSale_52 : decode cX7_addDrawnSale 52 = .ok (.getfield 186, 3) := by decide +kernel
theorem dX7_addDrawnSale_55 : decode cX7_addDrawnSale 55 = .ok (.iload_n 3, 1) := by decide +kernel
theorem dX7_addDrawnSale_56 : decode cX7_addDrawnSale 56 = .ok (.iaload, 1) := by decide +kernel
theorem dX7_addDrawnSale_57 : decode cX7_addDrawnSale 57 = .ok (.istore 4, 2) := by decide +kernel
theorem dX7_addDrawnSale_59 : decode cX7_addDrawnSale 59 = .ok (.iconst 0, 1) := by decide +kernel
theorem dX7_addDrawnSale_60 : decode cX7_addDrawnSale 60 = .ok (.istore 5, 2) := by decide +kernel
theorem dX7_addDrawnSale_62 : decode cX7_addDrawnSale 62 = .ok (.iconst 0, 1) := by decide +kernel
theorem dX7_addDrawnSale_63 : decode cX7_addDrawnSale 63 = .ok (.istore 6, 2) := by decide +kernel
theorem dX7_addDrawnSale_65 : decode cX7_addDrawnSale 65 = .ok (.iload 6, 2) := by decide +kernel
theorem dX7_addDrawnSale_67 : decode cX7_addDrawnSale 67 = .ok (.iconst 5, 1) := by decide +kernel
theorem dX7_addDrawnSale_68 : decode cX7_addDrawnSale 68 = .ok (.if_icmp .ge 31, 3) := by decide +kernel
theorem dX7_addDrawnSale_71 : decode cX7_addDrawnSale 71 = .ok (.iload 5, 2) := by decide +kernel
theorem dX7_addDrawnSale_73 : decode cX7_addDrawnSale 73 = .ok (.iload_n 1, 1) := by decide +kernel
theorem dX7_addDrawnSale_74 : decode cX7_addDrawnSale 74 = .ok (.if_icmp .ge 25, 3) := by decide +kernel
theorem dX7_addDrawnSale_77 : decode cX7_addDrawnSale 77 = .ok (.aload_n 0, 1) := by decide +kernel
theorem dX7_addDrawnSale_78 : decode cX7_addDrawnSale 78 = .ok (.getfield 10, 3) := by decide +kernel
theorem dX7_addDrawnSale_81 : decode cX7_addDrawnSale 81 = .ok (.iload_n 2, 1) := by decide +kernel
theorem dX7_addDrawnSale_82 : decode cX7_addDrawnSale 82 = .ok (.iload_n 3, 1) := by decide +kernel
theorem dX7_addDrawnSale_83 : decode cX7_addDrawnSale 83 = .ok (.invokevirtual 196, 3) := by decide +kernel
theorem dX7_addDrawnSale_86 : decode cX7_addDrawnSale 86 = .ok (.iload 5, 2) := by decide +kernel
theorem dX7_addDrawnSale_88 : decode cX7_addDrawnSale 88 = .ok (.iload 4, 2) := by decide +kernel
theorem dX7_addDrawnSale_90 : decode cX7_addDrawnSale 90 = .ok (.iadd, 1) := by decide +kernel
theorem dX7_addDrawnSale_91 : decode cX7_addDrawnSale 91 = .ok (.istore 5, 2) := by decide +kernel
theorem dX7_addDrawnSale_93 : decode cX7_addDrawnSale 93 = .ok (.iinc 6 1, 3) := by decide +kernel
theorem dX7_addDrawnSale_96 : decode cX7_addDrawnSale 96 = .ok (.goto (-31), 3) := by decide +kernel
theorem dX7_addDrawnSale_99 : decode cX7_addDrawnSale 99 = .ok (.aload_n 0, 1) := by decide +kernel
theorem dX7_addDrawnSale_100 : decode cX7_addDrawnSale 100 = .ok (.getfield 10, 3) := by decide +kernel
theorem dX7_addDrawnSale_103 : decode cX7_addDrawnSale 103 = .ok (.invokevirtual 200, 3) := by decide +kernel
theorem dX7_addDrawnSale_106 : decode cX7_addDrawnSale 106 = .ok (.return_, 1) := by decide +kernel
set_option maxHeartbeats 4000000 in
set_option maxRecDepth 100000 in
theorem m_X7_addDrawnSale (l : Launch) (h : Nat → Int) (p : Int) (mem : Mem) (hp : 1 ≤ p ∧ p ≤ 2 * h (3 + (h 0 - 1).toNat)) (hRS : RS mem 21 h) (hG : GR h) (h0 : 1 ≤ h 0) (h1 : 1 ≤ h 1) (h2 : h 2 < 40) : Ret shp l yX7_addDrawnSale cX7_addDrawnSale 7 none 4 [pR 20, pI p] mem (fun rv mv => rv = none ∧ (∀ c, c ≠ 29 → c ≠ 30 → c ≠ 31 → mv c = mem c) ∧ RS mv 21 (addS h p)) := by
  refine ret_of (by decide +kernel) (Nat.le_of_ble_eq_true rfl) (fun X hX F G => ?_)
  show Ok shp X 7 0 [(0, pR 20), (1, pI p)] [] mem
  have he0 : mem 21 0 = h 0 := hRS.1
  have he1 : mem 21 1 = h 1 := hRS.2.1
  have g0 := hG.1
  have g1 := hG.2.1
  have g2 := hG.2.2.1
  have hV : ∀ i : Nat, i < 8 → mem 22 i = h (3 + i) := fun i hi => hRS.2.2.1 0 (by omega) i hi
  have hVb := hG.2.2.2.1
  have hall : fstD (mem 29) (mem 21 1) = h 2 := by rw [he1]; exact hRS.all hG
  have hpb := hVb (h 0 - 1).toNat (by omega)
  obtain ⟨dk, dq, dc, da, db⟩ := drw_bd hG h0 hp
  have hkd : drwK h p = kdF (fun i => h (3 + i)) p (h 0 - 1).toNat 0 := rfl
  have hcd : drwC h p = if p ≤ h (3 + drwK h p) then 1 else 2 := rfl
  refine ok_aload_n F dX7_addDrawnSale_0 0 rfl ?_
  refine ok_getr F dX7_addDrawnSale_1 kF_X7_10 sh_20 rfl ?_
  refine ok_iload_n F dX7_addDrawnSale_4 1 rfl ?_
  refine ok_callv F [pI p] dX7_addDrawnSale_5 kM_X6_openSale kI_X6_openSale kV_X6_openSale kL_X7_193 (ci := 6) rfl sh_21 rfl (by decide) (Nat.le_of_ble_eq_true rfl) rfl (m_X6_openSale_21 _ p mem (by omega) (by omega)) ?_
  rintro _ m_1 ⟨rfl, e_2⟩
  obtain ⟨mO, hmO⟩ : ∃ x, x = m_1 := ⟨_, rfl⟩
  have eO : mO = opnM mem 21 (fstD (mem 29) (mem 21 1)).toNat p 8 := by rw [hmO]; exact e_2
  rw [hall] at eO
  have oO : ∀ c, c ≠ 30 → c ≠ 31 → mO c = mem c := fun c c1 c2 => by funext j; rw [eO]; unfold opnM; rw [if_neg (by omega), mset_nk (by omega)]
  have q20 : m_1 20 = mem 20 := by rw [← hmO]; exact oO 20 (by decide) (by decide)
  have q21 : m_1 21 = mem 21 := by rw [← hmO]; exact oO 21 (by decide) (by decide)
  have q22 : m_1 22 = mem 22 := by rw [← hmO]; exact oO 22 (by decide) (by decide)
  refine ok_istore_n (lv' := [(2, pI (fstD (mem 29) (mem 21 1))), (0, pR 20), (1, pI p)]) F dX7_addDrawnSale_8 (by decide) rfl ?_
  refine ok_iload_n F dX7_addDrawnSale_9 0 rfl ?_
  refine ok_if_ge F 14 dX7_addDrawnSale_10 (by decide) (by omega) (fun c_3 => ?_) (fun c_3 => ?_)
  · refine ok_iconst F dX7_addDrawnSale_14 ?_
    refine ok_istore_n (lv' := [(3, pI 0), (2, pI (fstD (mem 29) (mem 21 1))), (0, pR 20), (1, pI p)]) F dX7_addDrawnSale_15 (by decide) rfl ?_
    have hL_16 : ∀ (n_16 : Nat) (k : Int), (0 ≤ k ∧ k ≤ h 0 - 1 ∧ drwK h p = kdF (fun i => h (3 + i)) p (h 0 - 1 - k).toNat k.toNat) → (h 0 - 1 - k).toNat = n_16 → Ok shp X 7 16 [(0, pR 20), (1, pI p), (2, pI (fstD (mem 29) (mem 21 1))), (3, pI k)] [] m_1 := by
      intro n_16
      induction n_16 using Nat.strongRecOn with
      | _ n_16 ih_16 =>
        intro k hI_16 hn_16
        refine ok_iload_n F dX7_addDrawnSale_16 3 rfl ?_
        refine ok_aload_n F dX7_addDrawnSale_17 0 rfl ?_
        refine ok_getr F dX7_addDrawnSale_18 kF_X7_10 sh_20 rfl ?_
        refine ok_getf (v := mem 21 0) F dX7_addDrawnSale_21 kF_X7_103 sh_21 rfl (by rw [q21] <;> rfl) ?_
        refine ok_iconst F dX7_addDrawnSale_24 ?_
        refine ok_isub F dX7_addDrawnSale_25 ?_
        refine ok_icmp_ge F 48 dX7_addDrawnSale_26 (by decide) (by omega) (by omega) (fun c_4 => ?_) (fun c_4 => ?_)
        · have a3 := hV k.toNat (by omega)
          have a4 := hVb k.toNat (by omega)
          refine ok_aload_n F dX7_addDrawnSale_48 0 rfl ?_
          refine ok_getr F dX7_addDrawnSale_49 kF_X7_10 sh_20 rfl ?_
          refine ok_getr F dX7_addDrawnSale_52 kF_X7_186 sh_21 rfl ?_
          refine ok_iload_n F dX7_addDrawnSale_55 3 rfl ?_
          refine ok_iald (v := mem 22 k.toNat) F dX7_addDrawnSale_56 sh_22 (by first | decide | assumption) (by omega) (by omega) (by rw [q22] <;> rfl) ?_
          refine ok_istore (lv' := [(4, pI (mem 22 k.toNat)), (0, pR 20), (1, pI p), (2, pI (fstD (mem 29) (mem 21 1))), (3, pI k)]) F dX7_addDrawnSale_57 (by decide) rfl ?_
          refine ok_iconst F dX7_addDrawnSale_59 ?_
          refine ok_istore (lv' := [(5, pI 0), (4, pI (mem 22 k.toNat)), (0, pR 20), (1, pI p), (2, pI (fstD (mem 29) (mem 21 1))), (3, pI k)]) F dX7_addDrawnSale_60 (by decide) rfl ?_
          refine ok_iconst F dX7_addDrawnSale_62 ?_
          refine ok_istore (lv' := [(6, pI 0), (5, pI 0), (4, pI (mem 22 k.toNat)), (0, pR 20), (1, pI p), (2, pI (fstD (mem 29) (mem 21 1))), (3, pI k)]) F dX7_addDrawnSale_63 (by decide) rfl ?_
          have ekk : k = (drwK h p : Int) := by
            rw [hI_16.2.2]
            by_cases q : k < h 0 - 1
            · rw [show (h 0 - 1 - k).toNat = (h 0 - 1 - (k + 1)).toNat + 1 by omega, kdF_s, if_neg (by omega)]; omega
            · rw [show (h 0 - 1 - k).toNat = 0 by omega]; show k = ((k.toNat : Nat) : Int); omega
          have hL_65 : ∀ (n_65 : Nat) (v : Int) (w : Int) (i : Int) (m : Mem), ((v = h (3 + drwK h p) ∧ k = (drwK h p : Int)) ∧ (i = 0 ∧ w = 0 ∨ i = 1 ∧ w = v ∨ i = 2 ∧ w = v + v ∧ v < p) ∧ (∀ c, c ≠ 31 → m c = mO c) ∧ (∀ b, b ≠ 8 * (h 2).toNat + drwK h p → m 31 b = mO 31 b) ∧ m 31 (8 * (h 2).toNat + drwK h p) = i) → (5 - i).toNat = n_65 → Ok shp X 7 65 [(0, pR 20), (1, pI p), (2, pI (fstD (mem 29) (mem 21 1))), (3, pI k), (4, pI v), (5, pI w), (6, pI i)] [] m := by
            intro n_65
            induction n_65 using Nat.strongRecOn with
            | _ n_65 ih_65 =>
              intro v w i m hI_65 hn_65
              obtain ⟨⟨hv, hk⟩, hi, hF, hG1, hG2⟩ := hI_65
              have hvb := hVb (drwK h p) (by omega)
              refine ok_iload F dX7_addDrawnSale_65 6 rfl ?_
              refine ok_iconst F dX7_addDrawnSale_67 ?_
              refine ok_icmp_ge F 99 dX7_addDrawnSale_68 (by decide) (by omega) (by omega) (fun c_5 => ?_) (fun c_5 => ?_)
              · refine ok_aload_n F dX7_addDrawnSale_99 0 rfl ?_
                refine ok_getr F dX7_addDrawnSale_100 kF_X7_10 sh_20 rfl ?_
                refine ok_callv F [] dX7_addDrawnSale_103 kM_X6_closeSale kI_X6_closeSale kV_X6_closeSale kL_X7_200 (ci := 6) rfl sh_21 rfl (by decide) (Nat.le_of_ble_eq_true rfl) rfl (m_X6_closeSale_21 _ m (by rw [hF 21 (by omega), oO 21 (by decide) (by decide)]; omega)) ?_
                rintro _ m_6 ⟨rfl, e_7⟩
                have eC := e_7
                refine ok_vret F G dX7_addDrawnSale_106 ?_
                have ec : i = drwC h p := by
                  rw [hcd, ← hv]
                  by_cases q : p ≤ v
                  · rw [if_pos q]; omega
                  · rw [if_neg q]; omega
                have e21 : m 21 1 = h 1 := by rw [hF 21 (by omega), oO 21 (by decide) (by decide)]; exact he1
                have o9 : ∀ c, c ≠ 29 → c ≠ 30 → c ≠ 31 → mset m 29 (m 21 1 - 1).toNat (m 29 (m 21 1 - 1).toNat + 1) c = mem c := fun c c1 c2 c3 => by rw [mset_nka c1, hF c c3, oO c c2 c3]
                rw [eC]
                refine ⟨rfl, o9, RS.sold hRS hG h1 o9 (fun j hj => ?_) (fun s hs k2 hk2 => ?_) (fun j => ?_) h2⟩
                · rw [mset_nk (by decide), hF 30 (by decide), eO]; unfold opnM; rw [if_neg (by omega)]
                  show mset mem 30 (h 2).toNat p 30 j = _
                  by_cases q : j = (h 2).toNat
                  · subst q; rw [mset_eq, if_pos rfl]
                  · rw [mset_ne (fun z => q z.2), if_neg q]
                · rw [mset_nk (by decide)]
                  by_cases q : s = (h 2).toNat
                  · rw [if_pos q]
                    by_cases q2 : k2 = drwK h p
                    · rw [if_pos q2, q, q2, hG2, ec]
                    · rw [if_neg q2, hG1 _ (by omega), eO]; unfold opnM; rw [if_pos (by omega)]
                  · rw [if_neg q, hG1 _ (by omega), eO]; unfold opnM; rw [if_neg (by omega), mset_nk (by decide)]
                · have e29 : ∀ j, m 29 j = mem 29 j := fun j => by rw [hF 29 (by decide), oO 29 (by decide) (by decide)]
                  rw [e21]
                  by_cases q : j = (h 1 - 1).toNat
                  · rw [q, mset_eq, if_pos rfl, e29]
                  · rw [mset_ne (fun z => q z.2), if_neg q, e29]
              · refine ok_iload F dX7_addDrawnSale_71 5 rfl ?_
                refine ok_iload_n F dX7_addDrawnSale_73 1 rfl ?_
                refine ok_icmp_ge F 99 dX7_addDrawnSale_74 (by decide) (by omega) (by omega) (fun c_8 => ?_) (fun c_8 => ?_)
                · refine ok_aload_n F dX7_addDrawnSale_99 0 rfl ?_
                  refine ok_getr F dX7_addDrawnSale_100 kF_X7_10 sh_20 rfl ?_
                  refine ok_callv F [] dX7_addDrawnSale_103 kM_X6_closeSale kI_X6_closeSale kV_X6_closeSale kL_X7_200 (ci := 6) rfl sh_21 rfl (by decide) (Nat.le_of_ble_eq_true rfl) rfl (m_X6_closeSale_21 _ m (by rw [hF 21 (by omega), oO 21 (by decide) (by decide)]; omega)) ?_
                  rintro _ m_9 ⟨rfl, e_10⟩
                  have eC := e_10
                  refine ok_vret F G dX7_addDrawnSale_106 ?_
                  have ec : i = drwC h p := by
                    rw [hcd, ← hv]
                    by_cases q : p ≤ v
                    · rw [if_pos q]; omega
                    · rw [if_neg q]; omega
                  have e21 : m 21 1 = h 1 := by rw [hF 21 (by omega), oO 21 (by decide) (by decide)]; exact he1
                  have o9 : ∀ c, c ≠ 29 → c ≠ 30 → c ≠ 31 → mset m 29 (m 21 1 - 1).toNat (m 29 (m 21 1 - 1).toNat + 1) c = mem c := fun c c1 c2 c3 => by rw [mset_nka c1, hF c c3, oO c c2 c3]
                  rw [eC]
                  refine ⟨rfl, o9, RS.sold hRS hG h1 o9 (fun j hj => ?_) (fun s hs k2 hk2 => ?_) (fun j => ?_) h2⟩
                  · rw [mset_nk (by decide), hF 30 (by decide), eO]; unfold opnM; rw [if_neg (by omega)]
                    show mset mem 30 (h 2).toNat p 30 j = _
                    by_cases q : j = (h 2).toNat
                    · subst q; rw [mset_eq, if_pos rfl]
                    · rw [mset_ne (fun z => q z.2), if_neg q]
                  · rw [mset_nk (by decide)]
                    by_cases q : s = (h 2).toNat
                    · rw [if_pos q]
                      by_cases q2 : k2 = drwK h p
                      · rw [if_pos q2, q, q2, hG2, ec]
                      · rw [if_neg q2, hG1 _ (by omega), eO]; unfold opnM; rw [if_pos (by omega)]
                    · rw [if_neg q, hG1 _ (by omega), eO]; unfold opnM; rw [if_neg (by omega), mset_nk (by decide)]
                  · have e29 : ∀ j, m 29 j = mem 29 j := fun j => by rw [hF 29 (by decide), oO 29 (by decide) (by decide)]
                    rw [e21]
                    by_cases q : j = (h 1 - 1).toNat
                    · rw [q, mset_eq, if_pos rfl, e29]
                    · rw [mset_ne (fun z => q z.2), if_neg q, e29]
                · refine ok_aload_n F dX7_addDrawnSale_77 0 rfl ?_
                  refine ok_getr F dX7_addDrawnSale_78 kF_X7_10 sh_20 rfl ?_
                  refine ok_iload_n F dX7_addDrawnSale_81 2 rfl ?_
                  refine ok_iload_n F dX7_addDrawnSale_82 3 rfl ?_
                  refine ok_callv F [pI (fstD (mem 29) (mem 21 1)), pI k] dX7_addDrawnSale_83 kM_X6_addGiven kI_X6_addGiven kV_X6_addGiven kL_X7_196 (ci := 6) rfl sh_21 rfl (by decide) (Nat.le_of_ble_eq_true rfl) rfl (m_X6_addGiven_21 _ (fstD (mem 29) (mem 21 1)) k m (by omega) (by omega)) ?_
                  rintro _ m_11 ⟨rfl, e_12⟩
                  have eG := e_12
                  refine ok_iload F dX7_addDrawnSale_86 5 rfl ?_
                  refine ok_iload F dX7_addDrawnSale_88 4 rfl ?_
                  refine ok_iadd F dX7_addDrawnSale_90 ?_
                  refine ok_istore (lv' := [(5, pI (w + v)), (0, pR 20), (1, pI p), (2, pI (fstD (mem 29) (mem 21 1))), (3, pI k), (4, pI v), (6, pI i)]) F dX7_addDrawnSale_91 (by decide) rfl ?_
                  refine ok_iinc (lv' := [(6, pI (i + 1)), (5, pI (w + v)), (0, pR 20), (1, pI p), (2, pI (fstD (mem 29) (mem 21 1))), (3, pI k), (4, pI v)]) F dX7_addDrawnSale_93 6 rfl (by decide) rfl ?_
                  refine ok_goto F 65 dX7_addDrawnSale_96 (by decide) ?_
                  refine ok_lvp [2, 3, 4, 5, 6, 1, 0] (lv' := [(0, pR 20), (1, pI p), (2, pI (fstD (mem 29) (mem 21 1))), (3, pI k), (4, pI v), (5, pI (w + v)), (6, pI (i + 1))]) rfl ?_
                  refine ih_65 _ ?_ v (w + v) (i + 1) m_11 ?_ rfl
                  · omega
                  · have ej : (fstD (mem 29) (mem 21 1) * 8 + k).toNat = 8 * (h 2).toNat + drwK h p := by rw [hall]; omega
                    rw [ej] at eG
                    refine ⟨⟨hv, hk⟩, by omega, fun c c1 => by rw [eG, mset_nka c1]; exact hF c c1, fun b c1 => by rw [eG, mset_ne (fun q => c1 q.2)]; exact hG1 b c1, by rw [eG, mset_eq, hG2]⟩
          refine ok_lvp [3, 4, 5, 6, 2, 1, 0] (lv' := [(0, pR 20), (1, pI p), (2, pI (fstD (mem 29) (mem 21 1))), (3, pI k), (4, pI (mem 22 k.toNat)), (5, pI 0), (6, pI 0)]) rfl ?_
          refine hL_65 _ (mem 22 k.toNat) 0 0 m_1 ?_ rfl
          rw [← hmO]
          exact ⟨⟨by rw [hV _ (by omega), ekk]; rfl, ekk⟩, Or.inl ⟨rfl, rfl⟩, fun _ _ => rfl, fun _ _ => rfl, by rw [eO]; unfold opnM; rw [if_pos (by omega)]⟩
        · have a1 := hV k.toNat (by omega)
          have a2 := hVb k.toNat (by omega)
          refine ok_aload_n F dX7_addDrawnSale_29 0 rfl ?_
          refine ok_getr F dX7_addDrawnSale_30 kF_X7_10 sh_20 rfl ?_
          refine ok_getr F dX7_addDrawnSale_33 kF_X7_186 sh_21 rfl ?_
          refine ok_iload_n F dX7_addDrawnSale_36 3 rfl ?_
          refine ok_iald (v := mem 22 k.toNat) F dX7_addDrawnSale_37 sh_22 (by first | decide | assumption) (by omega) (by omega) (by rw [q22] <;> rfl) ?_
          refine ok_iload_n F dX7_addDrawnSale_38 1 rfl ?_
          refine ok_icmp_ge F 48 dX7_addDrawnSale_39 (by decide) (by omega) (by omega) (fun c_13 => ?_) (fun c_13 => ?_)
          · have a3 := hV k.toNat (by omega)
            have a4 := hVb k.toNat (by omega)
            refine ok_aload_n F dX7_addDrawnSale_48 0 rfl ?_
            refine ok_getr F dX7_addDrawnSale_49 kF_X7_10 sh_20 rfl ?_
            refine ok_getr F dX7_addDrawnSale_52 kF_X7_186 sh_21 rfl ?_
            refine ok_iload_n F dX7_addDrawnSale_55 3 rfl ?_
            refine ok_iald (v := mem 22 k.toNat) F dX7_addDrawnSale_56 sh_22 (by first | decide | assumption) (by omega) (by omega) (by rw [q22] <;> rfl) ?_
            refine ok_istore (lv' := [(4, pI (mem 22 k.toNat)), (0, pR 20), (1, pI p), (2, pI (fstD (mem 29) (mem 21 1))), (3, pI k)]) F dX7_addDrawnSale_57 (by decide) rfl ?_
            refine ok_iconst F dX7_addDrawnSale_59 ?_
            refine ok_istore (lv' := [(5, pI 0), (4, pI (mem 22 k.toNat)), (0, pR 20), (1, pI p), (2, pI (fstD (mem 29) (mem 21 1))), (3, pI k)]) F dX7_addDrawnSale_60 (by decide) rfl ?_
            refine ok_iconst F dX7_addDrawnSale_62 ?_
            refine ok_istore (lv' := [(6, pI 0), (5, pI 0), (4, pI (mem 22 k.toNat)), (0, pR 20), (1, pI p), (2, pI (fstD (mem 29) (mem 21 1))), (3, pI k)]) F dX7_addDrawnSale_63 (by decide) rfl ?_
            have ekk : k = (drwK h p : Int) := by
              rw [hI_16.2.2]
              by_cases q : k < h 0 - 1
              · rw [show (h 0 - 1 - k).toNat = (h 0 - 1 - (k + 1)).toNat + 1 by omega, kdF_s, if_neg (by omega)]; omega
              · rw [show (h 0 - 1 - k).toNat = 0 by omega]; show k = ((k.toNat : Nat) : Int); omega
            have hL_65 : ∀ (n_65 : Nat) (v : Int) (w : Int) (i : Int) (m : Mem), ((v = h (3 + drwK h p) ∧ k = (drwK h p : Int)) ∧ (i = 0 ∧ w = 0 ∨ i = 1 ∧ w = v ∨ i = 2 ∧ w = v + v ∧ v < p) ∧ (∀ c, c ≠ 31 → m c = mO c) ∧ (∀ b, b ≠ 8 * (h 2).toNat + drwK h p → m 31 b = mO 31 b) ∧ m 31 (8 * (h 2).toNat + drwK h p) = i) → (5 - i).toNat = n_65 → Ok shp X 7 65 [(0, pR 20), (1, pI p), (2, pI (fstD (mem 29) (mem 21 1))), (3, pI k), (4, pI v), (5, pI w), (6, pI i)] [] m := by
              intro n_65
              induction n_65 using Nat.strongRecOn with
              | _ n_65 ih_65 =>
                intro v w i m hI_65 hn_65
                obtain ⟨⟨hv, hk⟩, hi, hF, hG1, hG2⟩ := hI_65
                have hvb := hVb (drwK h p) (by omega)
                refine ok_iload F dX7_addDrawnSale_65 6 rfl ?_
                refine ok_iconst F dX7_addDrawnSale_67 ?_
                refine ok_icmp_ge F 99 dX7_addDrawnSale_68 (by decide) (by omega) (by omega) (fun c_14 => ?_) (fun c_14 => ?_)
                · refine ok_aload_n F dX7_addDrawnSale_99 0 rfl ?_
                  refine ok_getr F dX7_addDrawnSale_100 kF_X7_10 sh_20 rfl ?_
                  refine ok_callv F [] dX7_addDrawnSale_103 kM_X6_closeSale kI_X6_closeSale kV_X6_closeSale kL_X7_200 (ci := 6) rfl sh_21 rfl (by decide) (Nat.le_of_ble_eq_true rfl) rfl (m_X6_closeSale_21 _ m (by rw [hF 21 (by omega), oO 21 (by decide) (by decide)]; omega)) ?_
                  rintro _ m_15 ⟨rfl, e_16⟩
                  have eC := e_16
                  refine ok_vret F G dX7_addDrawnSale_106 ?_
                  have ec : i = drwC h p := by
                    rw [hcd, ← hv]
                    by_cases q : p ≤ v
                    · rw [if_pos q]; omega
                    · rw [if_neg q]; omega
                  have e21 : m 21 1 = h 1 := by rw [hF 21 (by omega), oO 21 (by decide) (by decide)]; exact he1
                  have o9 : ∀ c, c ≠ 29 → c ≠ 30 → c ≠ 31 → mset m 29 (m 21 1 - 1).toNat (m 29 (m 21 1 - 1).toNat + 1) c = mem c := fun c c1 c2 c3 => by rw [mset_nka c1, hF c c3, oO c c2 c3]
                  rw [eC]
                  refine ⟨rfl, o9, RS.sold hRS hG h1 o9 (fun j hj => ?_) (fun s hs k2 hk2 => ?_) (fun j => ?_) h2⟩
                  · rw [mset_nk (by decide), hF 30 (by decide), eO]; unfold opnM; rw [if_neg (by omega)]
                    show mset mem 30 (h 2).toNat p 30 j = _
                    by_cases q : j = (h 2).toNat
                    · subst q; rw [mset_eq, if_pos rfl]
                    · rw [mset_ne (fun z => q z.2), if_neg q]
                  · rw [mset_nk (by decide)]
                    by_cases q : s = (h 2).toNat
                    · rw [if_pos q]
                      by_cases q2 : k2 = drwK h p
                      · rw [if_pos q2, q, q2, hG2, ec]
                      · rw [if_neg q2, hG1 _ (by omega), eO]; unfold opnM; rw [if_pos (by omega)]
                    · rw [if_neg q, hG1 _ (by omega), eO]; unfold opnM; rw [if_neg (by omega), mset_nk (by decide)]
                  · have e29 : ∀ j, m 29 j = mem 29 j := fun j => by rw [hF 29 (by decide), oO 29 (by decide) (by decide)]
                    rw [e21]
                    by_cases q : j = (h 1 - 1).toNat
                    · rw [q, mset_eq, if_pos rfl, e29]
                    · rw [mset_ne (fun z => q z.2), if_neg q, e29]
                · refine ok_iload F dX7_addDrawnSale_71 5 rfl ?_
                  refine ok_iload_n F dX7_addDrawnSale_73 1 rfl ?_
                  refine ok_icmp_ge F 99 dX7_addDrawnSale_74 (by decide) (by omega) (by omega) (fun c_17 => ?_) (fun c_17 => ?_)
                  · refine ok_aload_n F dX7_addDrawnSale_99 0 rfl ?_
                    refine ok_getr F dX7_addDrawnSale_100 kF_X7_10 sh_20 rfl ?_
                    refine ok_callv F [] dX7_addDrawnSale_103 kM_X6_closeSale kI_X6_closeSale kV_X6_closeSale kL_X7_200 (ci := 6) rfl sh_21 rfl (by decide) (Nat.le_of_ble_eq_true rfl) rfl (m_X6_closeSale_21 _ m (by rw [hF 21 (by omega), oO 21 (by decide) (by decide)]; omega)) ?_
                    rintro _ m_18 ⟨rfl, e_19⟩
                    have eC := e_19
                    refine ok_vret F G dX7_addDrawnSale_106 ?_
                    have ec : i = drwC h p := by
                      rw [hcd, ← hv]
                      by_cases q : p ≤ v
                      · rw [if_pos q]; omega
                      · rw [if_neg q]; omega
                    have e21 : m 21 1 = h 1 := by rw [hF 21 (by omega), oO 21 (by decide) (by decide)]; exact he1
                    have o9 : ∀ c, c ≠ 29 → c ≠ 30 → c ≠ 31 → mset m 29 (m 21 1 - 1).toNat (m 29 (m 21 1 - 1).toNat + 1) c = mem c := fun c c1 c2 c3 => by rw [mset_nka c1, hF c c3, oO c c2 c3]
                    rw [eC]
                    refine ⟨rfl, o9, RS.sold hRS hG h1 o9 (fun j hj => ?_) (fun s hs k2 hk2 => ?_) (fun j => ?_) h2⟩
                    · rw [mset_nk (by decide), hF 30 (by decide), eO]; unfold opnM; rw [if_neg (by omega)]
                      show mset mem 30 (h 2).toNat p 30 j = _
                      by_cases q : j = (h 2).toNat
                      · subst q; rw [mset_eq, if_pos rfl]
                      · rw [mset_ne (fun z => q z.2), if_neg q]
                    · rw [mset_nk (by decide)]
                      by_cases q : s = (h 2).toNat
                      · rw [if_pos q]
                        by_cases q2 : k2 = drwK h p
                        · rw [if_pos q2, q, q2, hG2, ec]
                        · rw [if_neg q2, hG1 _ (by omega), eO]; unfold opnM; rw [if_pos (by omega)]
                      · rw [if_neg q, hG1 _ (by omega), eO]; unfold opnM; rw [if_neg (by omega), mset_nk (by decide)]
                    · have e29 : ∀ j, m 29 j = mem 29 j := fun j => by rw [hF 29 (by decide), oO 29 (by decide) (by decide)]
                      rw [e21]
                      by_cases q : j = (h 1 - 1).toNat
                      · rw [q, mset_eq, if_pos rfl, e29]
                      · rw [mset_ne (fun z => q z.2), if_neg q, e29]
                  · refine ok_aload_n F dX7_addDrawnSale_77 0 rfl ?_
                    refine ok_getr F dX7_addDrawnSale_78 kF_X7_10 sh_20 rfl ?_
                    refine ok_iload_n F dX7_addDrawnSale_81 2 rfl ?_
                    refine ok_iload_n F dX7_addDrawnSale_82 3 rfl ?_
                    refine ok_callv F [pI (fstD (mem 29) (mem 21 1)), pI k] dX7_addDrawnSale_83 kM_X6_addGiven kI_X6_addGiven kV_X6_addGiven kL_X7_196 (ci := 6) rfl sh_21 rfl (by decide) (Nat.le_of_ble_eq_true rfl) rfl (m_X6_addGiven_21 _ (fstD (mem 29) (mem 21 1)) k m (by omega) (by omega)) ?_
                    rintro _ m_20 ⟨rfl, e_21⟩
                    have eG := e_21
                    refine ok_iload F dX7_addDrawnSale_86 5 rfl ?_
                    refine ok_iload F dX7_addDrawnSale_88 4 rfl ?_
                    refine ok_iadd F dX7_addDrawnSale_90 ?_
                    refine ok_istore (lv' := [(5, pI (w + v)), (0, pR 20), (1, pI p), (2, pI (fstD (mem 29) (mem 21 1))), (3, pI k), (4, pI v), (6, pI i)]) F dX7_addDrawnSale_91 (by decide) rfl ?_
                    refine ok_iinc (lv' := [(6, pI (i + 1)), (5, pI (w + v)), (0, pR 20), (1, pI p), (2, pI (fstD (mem 29) (mem 21 1))), (3, pI k), (4, pI v)]) F dX7_addDrawnSale_93 6 rfl (by decide) rfl ?_
                    refine ok_goto F 65 dX7_addDrawnSale_96 (by decide) ?_
                    refine ok_lvp [2, 3, 4, 5, 6, 1, 0] (lv' := [(0, pR 20), (1, pI p), (2, pI (fstD (mem 29) (mem 21 1))), (3, pI k), (4, pI v), (5, pI (w + v)), (6, pI (i + 1))]) rfl ?_
                    refine ih_65 _ ?_ v (w + v) (i + 1) m_20 ?_ rfl
                    · omega
                    · have ej : (fstD (mem 29) (mem 21 1) * 8 + k).toNat = 8 * (h 2).toNat + drwK h p := by rw [hall]; omega
                      rw [ej] at eG
                      refine ⟨⟨hv, hk⟩, by omega, fun c c1 => by rw [eG, mset_nka c1]; exact hF c c1, fun b c1 => by rw [eG, mset_ne (fun q => c1 q.2)]; exact hG1 b c1, by rw [eG, mset_eq, hG2]⟩
            refine ok_lvp [3, 4, 5, 6, 2, 1, 0] (lv' := [(0, pR 20), (1, pI p), (2, pI (fstD (mem 29) (mem 21 1))), (3, pI k), (4, pI (mem 22 k.toNat)), (5, pI 0), (6, pI 0)]) rfl ?_
            refine hL_65 _ (mem 22 k.toNat) 0 0 m_1 ?_ rfl
            rw [← hmO]
            exact ⟨⟨by rw [hV _ (by omega), ekk]; rfl, ekk⟩, Or.inl ⟨rfl, rfl⟩, fun _ _ => rfl, fun _ _ => rfl, by rw [eO]; unfold opnM; rw [if_pos (by omega)]⟩
          · refine ok_iinc (lv' := [(3, pI (k + 1)), (0, pR 20), (1, pI p), (2, pI (fstD (mem 29) (mem 21 1)))]) F dX7_addDrawnSale_42 3 rfl (by decide) rfl ?_
            refine ok_goto F 16 dX7_addDrawnSale_45 (by decide) ?_
            refine ok_lvp [1, 2, 3, 0] (lv' := [(0, pR 20), (1, pI p), (2, pI (fstD (mem 29) (mem 21 1))), (3, pI (k + 1))]) rfl ?_
            refine ih_16 _ ?_ (k + 1) ?_ rfl
            · omega
            · refine ⟨by omega, by omega, ?_⟩
              rw [hI_16.2.2, show (h 0 - 1 - k).toNat = (h 0 - 1 - (k + 1)).toNat + 1 by omega, kdF_s, if_pos (by omega), show (k + 1).toNat = k.toNat + 1 by omega]
    refine ok_lvp [2, 3, 1, 0] (lv' := [(0, pR 20), (1, pI p), (2, pI (fstD (mem 29) (mem 21 1))), (3, pI 0)]) rfl ?_
    refine hL_16 _ 0 ?_ rfl
    exact ⟨by omega, by omega, by rw [Int.sub_zero]; exact hkd⟩
  · exfalso; omega
