/-! the class: what is given at a sale, read -/
theorem pc_stop {H : Mem} {c t g F : Int} (h : qB H c 0 9 = F) (hF : F ≠ -1) (n : Nat) : (pcL (n + 1) c t g H).1 0 9 = F := by
  have e : qC H c t = qB H c := if_neg (by rw [h]; exact hF)
  have d : qD H c t = qC H c t := if_neg (by rw [e, h]; exact hF)
  have b : qMore H c t = false := decide_eq_false (fun q => hF (by rw [e, h] at q; exact q.1))
  rw [pcL_s, if_neg (by rw [b]; decide)]
  show qD H c t 0 9 = F
  rw [d, e, h]
theorem qA_bad {H : Mem} (h : numM H 1 500 0 9 ≠ -1) : qA H = numM H 1 500 := if_neg (fun q => h q.1)
theorem qB_bad {H : Mem} {c : Int} (h : qA H 0 9 ≠ -1) : qB H c = qA H := if_neg (fun q => h q.1)
theorem kindAt_no {g : Nat → Int} {v : Int} : ∀ (n k : Nat), (∀ i, k ≤ i → i < k + n → g i ≠ v) → kindAt g v n k = -1
  | 0, _, _ => rfl
  | n + 1, k, h => by
    rw [kindAt, if_neg (h k (Nat.le_refl _) (by omega))]
    exact kindAt_no n (k + 1) (fun i h1 h2 => h i (by omega) (by omega))
theorem kindAt_eq {g g2 : Nat → Int} {v : Int} : ∀ (n k : Nat), (∀ i, k ≤ i → i < k + n → g i = g2 i) → kindAt g v n k = kindAt g2 v n k
  | 0, _, _ => rfl
  | n + 1, k, h => by
    rw [kindAt, kindAt, h k (Nat.le_refl _) (by omega), kindAt_eq n (k + 1) (fun i h1 h2 => h i (by omega) (by omega))]
theorem kindAt_val {g : Nat → Int} {v : Int} : ∀ (n k : Nat), kindAt g v n k ≠ -1 → g (kindAt g v n k).toNat = v
  | 0, _, h => absurd rfl h
  | n + 1, k, h => by
    rw [kindAt] at h ⊢
    by_cases e : g k = v
    · rw [if_pos e]; exact e
    · rw [if_neg e] at h ⊢
      exact kindAt_val n (k + 1) h
theorem sum_inc {r v : Nat → Int} {p : Nat} : ∀ {n : Nat}, p < n → sumN (fun k => rput r p (r p + 1) k * v k) n = sumN (fun k => r k * v k) n + v p
  | n + 1, h => by
    show sumN (fun k => rput r p (r p + 1) k * v k) n + rput r p (r p + 1) n * v n = sumN (fun k => r k * v k) n + r n * v n + v p
    by_cases e : p = n
    · subst e
      have e1 : sumN (fun k => rput r p (r p + 1) k * v k) p = sumN (fun k => r k * v k) p := sumN_congr (fun i hi => by
        show rput r p (r p + 1) i * v i = r i * v i
        rw [show rput r p (r p + 1) i = r i from if_neg (by omega)])
      have e2 : rput r p (r p + 1) p = r p + 1 := if_pos rfl
      rw [e1, e2, Int.add_mul, Int.one_mul]
      omega
    · have e2 : rput r p (r p + 1) n = r n := if_neg (by omega)
      rw [sum_inc (n := n) (by omega), e2]
      omega
/-- how a sale stands while it is read: the row of what is heard, and the class's cells -/
def GvI (g H m m0 : Mem) (pr : Int) (i w : Int) : Prop := H 0 9 = -1 ∧ RT H m ∧ H 7 = g 7 ∧ (∀ j : Nat, j < 59 + 10 * (g 2 2).toNat → H 2 j = g 2 j) ∧ H 2 (59 + 10 * (g 2 2).toNat) = g 2 1 - 1 ∧ H 2 (60 + 10 * (g 2 2).toNat) = pr ∧ (∀ j : Nat, 69 + 10 * (g 2 2).toNat ≤ j → H 2 j = 0) ∧ (∀ k : Nat, k < 8 → 0 ≤ H 2 (61 + 10 * (g 2 2).toNat + k) ∧ H 2 (61 + 10 * (g 2 2).toNat + k) ≤ i) ∧ w = sumN (fun k => H 2 (61 + 10 * (g 2 2).toNat + k) * g 2 (3 + k)) (g 2 0).toNat ∧ (0 ≤ w ∧ w ≤ 500 * i) ∧ (∀ k : Nat, k < 8 → m 42 (8 * (g 2 2).toNat + k) = H 2 (61 + 10 * (g 2 2).toNat + k)) ∧ (∀ j : Nat, j < 8 * (g 2 2).toNat ∨ 8 * (g 2 2).toNat + 8 ≤ j → m 42 j = m0 42 j) ∧ (∀ j : Nat, m 41 j = if j = (g 2 2).toNat then pr else m0 41 j) ∧ (∀ c, c ≠ 41 → c ≠ 42 → c ≠ 175 → m c = m0 c) ∧ m 175 6 = m0 175 6 ∧ m 175 7 = m0 175 7
theorem GvI.step {g H m m0 mq m2 : Mem} {pr i w V : Int} {k0 : Nat} (h : GvI g H m m0 pr i w) (hG : GR (g 2)) (h2 : g 2 2 < 40) (hi : 0 ≤ i ∧ i < 5) (hq9 : numM H 1 500 0 9 = -1) (hT : RT (numM H 1 500) mq) (hf : ∀ c, c ≠ 175 → mq c = m c) (h6 : mq 175 6 = m 175 6) (h7 : mq 175 7 = m 175 7) (hV : qV H = V) (hVb : 1 ≤ V ∧ V ≤ 500) (hk : qK H = (k0 : Int)) (hk0 : (k0 : Int) < g 2 0) (hkv : g 2 (3 + k0) = V) (e2 : m2 = mset mq 42 (8 * (g 2 2).toNat + k0) (mq 42 (8 * (g 2 2).toNat + k0) + 1)) : GvI g (qC H i (59 + 10 * g 2 2)) m2 m0 pr (i + 1) (w + V) := by
  obtain ⟨b1, b2, b3, b4, b5, b6, b7, b8, b9, b10, b11, b12, b13, b14, b15, b16⟩ := h
  obtain ⟨x1, _⟩ := numM_at H 1 500
  have g0 := hG.1
  have g2 := hG.2.2.1
  have hA : qA H = numM H 1 500 := if_neg (fun q => by have := q.2; omega)
  have hB : qB H i = numM H 1 500 := by
    unfold qB
    rw [hA, if_neg (by omega)]
  have hj : (59 + 10 * g 2 2 + 2 + qK H).toNat = 61 + 10 * (g 2 2).toNat + k0 := by omega
  have n2 := x1 2 (by decide)
  have hC : qC H i (59 + 10 * g 2 2) = mset (numM H 1 500) 2 (61 + 10 * (g 2 2).toNat + k0) (H 2 (61 + 10 * (g 2 2).toNat + k0) + 1) := by
    unfold qC
    rw [hB, if_pos hq9, hj, n2]
  have c2 : ∀ j : Nat, j ≠ 61 + 10 * (g 2 2).toNat + k0 → qC H i (59 + 10 * g 2 2) 2 j = H 2 j := fun j hj => by rw [hC, mset_ne (fun q => hj q.2), n2]
  have ck : qC H i (59 + 10 * g 2 2) 2 (61 + 10 * (g 2 2).toNat + k0) = H 2 (61 + 10 * (g 2 2).toNat + k0) + 1 := by rw [hC, mset_eq]
  have ca : ∀ a, a ≠ 2 → qC H i (59 + 10 * g 2 2) a = numM H 1 500 a := fun a ha => by rw [hC]; exact mset_nka ha
  have o : ∀ c, c ≠ 42 → m2 c = mq c := fun c hc => by rw [e2]; exact mset_nka hc
  have hbk := b8 k0 (by omega)
  refine ⟨by rw [ca 0 (by decide)]; exact hq9, hT.of (ca 6 (by decide)) (by rw [ca 0 (by decide)]) (hT.2.2.2.1.cell (ca 0 (by decide))) (o 176 (by decide)) (by rw [o 175 (by decide)]) (by rw [o 175 (by decide), ca 0 (by decide)]; exact hT.2.2.1), by rw [ca 7 (by decide), x1 7 (by decide)]; exact b3, fun j hj => by rw [c2 j (by omega)]; exact b4 j hj, by rw [c2 _ (by omega)]; exact b5, by rw [c2 _ (by omega)]; exact b6, fun j hj => by rw [c2 j (by omega)]; exact b7 j hj, fun k hk => ?_, ?_, by omega, fun k hk => ?_, fun j hj => ?_, fun j => by rw [o 41 (by decide), hf 41 (by decide)]; exact b13 j, fun c c1 c2 c3 => by rw [o c c2, hf c c3]; exact b14 c c1 c2 c3, by rw [o 175 (by decide), h6]; exact b15, by rw [o 175 (by decide), h7]; exact b16⟩
  · by_cases z : k = k0
    · rw [z, ck]; omega
    · rw [c2 _ (by omega)]; have := b8 k hk; omega
  · have e : sumN (fun k => qC H i (59 + 10 * g 2 2) 2 (61 + 10 * (g 2 2).toNat + k) * g 2 (3 + k)) (g 2 0).toNat = sumN (fun k => rput (fun k => H 2 (61 + 10 * (g 2 2).toNat + k)) k0 (H 2 (61 + 10 * (g 2 2).toNat + k0) + 1) k * g 2 (3 + k)) (g 2 0).toNat := sumN_congr (fun k hk => by
      show _ * _ = (if k = k0 then H 2 (61 + 10 * (g 2 2).toNat + k0) + 1 else H 2 (61 + 10 * (g 2 2).toNat + k)) * _
      by_cases z : k = k0
      · rw [z, if_pos rfl, ck]
      · rw [if_neg z, c2 _ (by omega)])
    rw [e, sum_inc (r := fun k => H 2 (61 + 10 * (g 2 2).toNat + k)) (v := fun k => g 2 (3 + k)) (p := k0) (by omega), hkv, ← b9]
  · by_cases z : k = k0
    · rw [z, ck, e2, mset_eq, hf 42 (by decide), b11 k0 (by omega)]
    · rw [c2 _ (by omega), e2, mset_ne (by omega), hf 42 (by decide)]; exact b11 k hk
  · rw [e2, mset_ne (by omega), hf 42 (by decide)]; exact b12 j hj
theorem GvI.next {g H m m0 : Mem} {pr i w : Int} (h : GvI g H m m0 pr i w) : GvI g (ptD H) (mset m 175 3 (ptP H)) m0 pr i w := by
  obtain ⟨b1, b2, b3, b4, b5, b6, b7, b8, b9, b10, b11, b12, b13, b14, b15, b16⟩ := h
  obtain ⟨pD, pT, pP, aD, aT, eP1, pid, hle, pN, p99, p9t⟩ := pt_ok b2.2.2.2.1
  have a2 := aD 2 (by decide)
  have o : ∀ c, c ≠ 175 → mset m 175 3 (ptP H) c = m c := fun c hc => mset_nka hc
  refine ⟨by rw [p99]; exact b1, b2.of (aD 6 (by decide)) (mset_ne (by decide)) pD (o 176 (by decide)) (mset_ne (by decide)) (by rw [mset_eq, eP1]), by rw [aD 7 (by decide)]; exact b3, by rw [a2]; exact b4, by rw [a2]; exact b5, by rw [a2]; exact b6, by rw [a2]; exact b7, by rw [a2]; exact b8, by rw [a2]; exact b9, b10, by rw [a2, o 42 (by decide)]; exact b11, by rw [o 42 (by decide)]; exact b12, by rw [o 41 (by decide)]; exact b13, fun c c1 c2 c3 => by rw [o c c3]; exact b14 c c1 c2 c3, by rw [mset_ne (by decide)]; exact b15, by rw [mset_ne (by decide)]; exact b16⟩
/-- the whole sale, read -/
theorem GvI.done {g H m m0 mv : Mem} {pr i w : Int} (h : GvI g H m m0 pr i w) (hR : RS m0 32 (g 2)) (hG : GR (g 2)) (h1 : 1 ≤ g 2 1) (h2 : g 2 2 < 40) (hk1 : 1 ≤ g 2 0) (hi : 0 ≤ i ∧ i ≤ 5) (hpr : 1 ≤ pr ∧ pr ≤ 1000) (hw : pr ≤ w) (a6 : 0 ≤ m0 175 6 ∧ m0 175 6 ≤ 15) (a7 : ∀ r : Nat, r < 4 → iand (ishr (m0 175 6) (r : Int)) 1 = g 7 r) (a8 : ∀ r : Nat, g 7 r = 0 ∨ g 7 r = 1) (e : mv = mset m 40 (g 2 1 - 1).toNat (m 40 (g 2 1 - 1).toNat + 1)) : RH (mset H 2 2 (H 2 2 + 1)) mv ∧ mset H 2 2 (H 2 2 + 1) 2 0 = g 2 0 ∧ mv 175 7 = m0 175 7 := by
  obtain ⟨b1, b2, b3, b4, b5, b6, b7, b8, b9, b10, b11, b12, b13, b14, b15, b16⟩ := h
  have g2 := hG.2.2.1
  have o : ∀ c, c ≠ 40 → mv c = m c := fun c hc => by rw [e]; exact mset_nka hc
  have c2 : ∀ j : Nat, j ≠ 2 → mset H 2 2 (H 2 2 + 1) 2 j = H 2 j := fun j hj => mset_ne (fun q => hj q.2)
  have c22 : mset H 2 2 (H 2 2 + 1) 2 2 = g 2 2 + 1 := by rw [mset_eq, b4 2 (by omega)]
  have ca : ∀ a, a ≠ 2 → mset H 2 2 (H 2 2 + 1) a = H a := fun a ha => mset_nka ha
  have hN : NewS (g 2) (mset H 2 2 (H 2 2 + 1) 2) := ⟨c22, by rw [c2 _ (by omega)]; exact b5, fun j h h' => by rw [c2 j h]; exact b4 j h'⟩
  have hsp : sPrice (mset H 2 2 (H 2 2 + 1) 2) (g 2 2).toNat = pr := by
    show mset H 2 2 (H 2 2 + 1) 2 (60 + 10 * (g 2 2).toNat) = pr
    rw [c2 _ (by omega)]; exact b6
  have hsg : ∀ k : Nat, k < 8 → sGiven (mset H 2 2 (H 2 2 + 1) 2) (g 2 2).toNat k = H 2 (61 + 10 * (g 2 2).toNat + k) := fun k hk => c2 _ (by omega)
  have c0 : mset H 2 2 (H 2 2 + 1) 2 0 = g 2 0 := by rw [c2 0 (by decide)]; exact b4 0 (by omega)
  have c1 : mset H 2 2 (H 2 2 + 1) 2 1 = g 2 1 := by rw [c2 1 (by decide)]; exact b4 1 (by omega)
  have g0 := hG.1
  have hab : abvS (mset H 2 2 (H 2 2 + 1) 2) (g 2 2).toNat = w - pr := by
    unfold abvS
    rw [hsp, c0, b9]
    congr 1
    refine sumN_congr (fun k hk => ?_)
    rw [hsg k (by omega), c2 (3 + k) (by omega), b4 (3 + k) (by omega)]
  refine ⟨⟨by rw [ca 0 (by decide)]; exact b1, b2.of (ca 6 (by decide)) (by rw [ca 0 (by decide)]) (b2.2.2.2.1.cell (ca 0 (by decide))) (o 176 (by decide)) (by rw [o 175 (by decide)]) (by rw [o 175 (by decide), ca 0 (by decide)]; exact b2.2.2.1), ?_, ?_, fun j hj => ?_, by rw [o 175 (by decide), b15]; exact a6, by rw [o 175 (by decide), b15, ca 7 (by decide), b3]; exact a7, by rw [ca 7 (by decide), b3]; exact a8, fun _ => by rw [c0]; exact hk1⟩, c0, by rw [o 175 (by decide)]; exact b16⟩
  · refine hN.RS32 hR hG h1 h2 (fun c c1 c2 => by rw [o c (by omega)]; exact b14 c (by omega) (by omega) (by omega)) (fun j hj => ?_) (fun s hs k hk => ?_) (fun j => ?_)
    · rw [o 41 (by decide), b13 j]
      by_cases z : j = (g 2 2).toNat
      · rw [if_pos z, if_pos z, z, hsp]
      · rw [if_neg z, if_neg z]
    · rw [o 42 (by decide)]
      by_cases z : s = (g 2 2).toNat
      · rw [if_pos z, z, hsg k hk]; exact b11 k hk
      · rw [if_neg z]; exact b12 _ (by omega)
    · rw [e]
      by_cases z : j = (g 2 1 - 1).toNat
      · rw [if_pos z, z, mset_eq, b14 40 (by decide) (by decide) (by decide)]
      · rw [if_neg z, mset_ne (fun q => z q.2), b14 40 (by decide) (by decide) (by decide)]
  · exact hN.GR hG h1 h2 (by rw [hsp]; exact hpr) (fun k hk => by rw [hsg k hk]; have := b8 k hk; omega) (by rw [hab]; omega)
  · rw [c22] at hj
    rw [c2 j (by omega)]; exact b7 j (by omega)
