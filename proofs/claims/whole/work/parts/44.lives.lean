/-! the class: days lived, asked about -/
theorem cnt_sorted {g : Nat → Bool} : ∀ {n : Nat}, (∀ s, s + 1 < n → g (s + 1) = true → g s = true) → (∀ s, s < n → (g s = true ↔ (s : Int) < sumN (fun s => if g s = true then (1 : Int) else 0) n)) ∧ 0 ≤ sumN (fun s => if g s = true then (1 : Int) else 0) n ∧ sumN (fun s => if g s = true then (1 : Int) else 0) n ≤ n
  | 0, _ => ⟨fun s hs => by omega, Int.le_refl _, Int.le_refl _⟩
  | n + 1, h => by
    obtain ⟨i1, i2, i3⟩ := cnt_sorted (g := g) (n := n) (fun s hs => h s (by omega))
    have e : sumN (fun s => if g s = true then (1 : Int) else 0) (n + 1) = sumN (fun s => if g s = true then (1 : Int) else 0) n + (if g n = true then 1 else 0) := rfl
    have hall : g n = true → ∀ k, k ≤ n → g (n - k) = true := fun hn k => by
      induction k with
      | zero => intro _; exact hn
      | succ k ih =>
        intro hk
        have := ih (by omega)
        exact h (n - (k + 1)) (by omega) (by rw [show n - (k + 1) + 1 = n - k by omega]; exact this)
    rw [e]
    by_cases hn : g n = true
    · rw [if_pos hn]
      have full : sumN (fun s => if g s = true then (1 : Int) else 0) n = n := by
        by_cases z : n = 0
        · subst z; rfl
        · have q := hall hn 1 (by omega)
          have := (i1 (n - 1) (by omega)).mp q
          omega
      refine ⟨fun s hs => ⟨fun _ => by omega, fun _ => ?_⟩, by omega, by omega⟩
      have := hall hn (n - s) (by omega)
      rw [show n - (n - s) = s by omega] at this
      exact this
    · rw [if_neg hn]
      refine ⟨fun s hs => ?_, by omega, by omega⟩
      by_cases z : s = n
      · subst z
        exact ⟨fun q => absurd q hn, fun q => by omega⟩
      · rw [Int.add_zero]; exact i1 s (by omega)
/-- where a day's sales begin, and how many they are -/
def dayA (f : Nat → Int) (d : Int) : Int := if d < 1 then 0 else endF f (d - 1)
def dayC (f : Nat → Int) (d : Int) : Int := endF f d - dayA f d
theorem endF_iff {f : Nat → Int} (hG : GR f) (d : Int) : (∀ s : Nat, (s : Int) < f 2 → (sDay f s ≤ d ↔ (s : Int) < endF f d)) ∧ 0 ≤ endF f d ∧ endF f d ≤ f 2 := by
  obtain ⟨g0, g1, g2, g3, g4, g5, g6, g7, g8, g9⟩ := hG
  have h := cnt_sorted (g := fun s => decide (sDay f s ≤ d)) (n := (f 2).toNat) (fun s hs q => by
    have := g8 s (by omega)
    have q2 := of_decide_eq_true q
    exact decide_eq_true (by omega))
  have e : sumN (fun s => if (decide (sDay f s ≤ d)) = true then (1 : Int) else 0) (f 2).toNat = endF f d := by
    unfold endF
    refine sumN_congr (fun s _ => ?_)
    by_cases g : sDay f s ≤ d
    · rw [if_pos g, if_pos (decide_eq_true g)]
    · rw [if_neg g, if_neg (by rw [decide_eq_true_eq]; exact g)]
  rw [e] at h
  refine ⟨fun s hs => ?_, h.2.1, by omega⟩
  rw [← h.1 s (by omega), decide_eq_true_eq]
theorem day_iff {f : Nat → Int} (hG : GR f) {d : Int} (hd : 0 ≤ d) : 0 ≤ dayA f d ∧ 0 ≤ dayC f d ∧ dayA f d + dayC f d ≤ f 2 ∧ ∀ s : Nat, (s : Int) < f 2 → (sDay f s = d ↔ dayA f d ≤ s ∧ (s : Int) < dayA f d + dayC f d) := by
  obtain ⟨a1, a2, a3⟩ := endF_iff hG d
  obtain ⟨b1, b2, b3⟩ := endF_iff hG (d - 1)
  have g7 := hG.2.2.2.2.2.2.2.1
  have mono : endF f (d - 1) ≤ endF f d := by
    by_cases g : endF f (d - 1) ≤ endF f d
    · exact g
    · have q := (b1 (endF f d).toNat (by omega)).mpr (by omega)
      have q2 := (a1 (endF f d).toNat (by omega)).mp (by omega)
      omega
  unfold dayC dayA
  by_cases g : d < 1
  · rw [if_pos g]
    refine ⟨by omega, by omega, by omega, fun s hs => ?_⟩
    have := a1 s hs
    have := (g7 s hs).1.1
    omega
  · rw [if_neg g]
    refine ⟨by omega, by omega, by omega, fun s hs => ?_⟩
    have := a1 s hs
    have := b1 s hs
    omega
theorem sum_block {g : Nat → Int} {P : Nat → Prop} [DecidablePred P] {a c : Nat} : ∀ {n : Nat}, (∀ s, s < n → (P s ↔ a ≤ s ∧ s < a + c)) → sumN (fun s => if P s then g s else 0) n = sumN (fun i => g (a + i)) (min n (a + c) - a)
  | 0, _ => by rw [show min 0 (a + c) - a = 0 by omega]; rfl
  | n + 1, h => by
    have ih := sum_block (g := g) (P := P) (a := a) (c := c) (n := n) (fun s hs => h s (by omega))
    show sumN (fun s => if P s then g s else 0) n + (if P n then g n else 0) = _
    rw [ih]
    by_cases q : a ≤ n ∧ n < a + c
    · rw [if_pos ((h n (by omega)).mpr q), show min (n + 1) (a + c) - a = (min n (a + c) - a) + 1 by omega]
      show _ = sumN (fun i => g (a + i)) (min n (a + c) - a) + g (a + (min n (a + c) - a))
      rw [show a + (min n (a + c) - a) = n by omega]
    · rw [if_neg (fun z => q ((h n (by omega)).mp z)), show min (n + 1) (a + c) - a = min n (a + c) - a by omega, Int.add_zero]
theorem day_sum {f : Nat → Int} (hG : GR f) {d : Int} (hd : 0 ≤ d) (g : Nat → Int) : sumN (fun s => if sDay f s = d then g s else 0) (f 2).toNat = sumN (fun i => g ((dayA f d).toNat + i)) (dayC f d).toNat := by
  obtain ⟨h1, h2, h3, h4⟩ := day_iff hG hd
  rw [sum_block (P := fun s => sDay f s = d) (a := (dayA f d).toNat) (c := (dayC f d).toNat) (fun s hs => by rw [h4 s (by omega)]; omega), show min (f 2).toNat ((dayA f d).toNat + (dayC f d).toNat) - (dayA f d).toNat = (dayC f d).toNat by omega]
theorem day_life {f : Nat → Int} (hG : GR f) {d : Int} (hd : 0 ≤ d) (L : LfS) : lifeN f d L (f 2).toNat = blkF f (dayA f d).toNat L (dayC f d).toNat := by
  obtain ⟨h1, h2, h3, h4⟩ := day_iff hG hd
  exact life_blk (by omega) (fun s hs => by rw [h4 s (by omega)]; omega)
theorem RS.fst {m : Mem} {b : Nat} {f : Nat → Int} (h : RS m b f) (hG : GR f) {d : Int} (hd : 0 ≤ d ∧ d ≤ f 1) : fstD (m (b + 8)) d = dayA f d := by
  have g1 := hG.2.1
  unfold fstD dayA
  by_cases g : d < 1
  · rw [if_pos (by omega), if_pos g]
  · rw [if_neg (by omega), if_neg g, h.2.2.2.2 (d - 1).toNat (by omega)]
    congr 1
    omega
theorem RS.nsa {m : Mem} {b : Nat} {f : Nat → Int} (h : RS m b f) (hG : GR f) {d : Int} (hd : 0 ≤ d ∧ d < f 1) : nsaD (m (b + 8)) (f 1) d = dayC f d := by
  unfold nsaD dayC
  rw [if_neg (by omega), h.fst hG (by omega), h.2.2.2.2 d.toNat (by omega), show ((d.toNat : Nat) : Int) = d by omega]
/-- what is spare behind c sales -/
def spF (f : Nat → Int) (a : Nat) (L : LfS) (sp : Nat → Int) : Nat → Nat → Int
  | 0 => sp
  | i + 1 => spS f (blkF f a L i).1 (a + i) (spF f a L sp i)
theorem blk_LI {f : Nat → Int} (hG : GR f) {a : Nat} {L : LfS} (h : LI 0 L) : ∀ i : Nat, (a : Int) + i ≤ f 2 → LI i (blkF f a L i) ∧ (blkF f a L i).2.2.2.2.2.2.2.2 = L.2.2.2.2.2.2.2.2 + i
  | 0, _ => ⟨h, by show _ = _ + ((0 : Nat) : Int); simp [blkF]⟩
  | i + 1, hi => by
    obtain ⟨h1, h2⟩ := blk_LI (a := a) (L := L) hG h i (by omega)
    have g7 := (hG.2.2.2.2.2.2.2.1 (a + i) (by omega)).2.2.1
    refine ⟨LI.step hG.1.2 (fun k hk => (g7 k hk).1) h1, ?_⟩
    show (lifeS f (a + i) (blkF f a L i)).2.2.2.2.2.2.2.2 = _
    have e : (lifeS f (a + i) (blkF f a L i)).2.2.2.2.2.2.2.2 = (blkF f a L i).2.2.2.2.2.2.2.2 + 1 := rfl
    rw [e, h2]
    omega
theorem spS_bd {f w : Nat → Int} {s : Nat} {sp : Nat → Int} (hN : 0 ≤ f 0 ∧ f 0 ≤ 8) (hw : ∀ k : Nat, k < 8 → 0 ≤ w k ∧ w k ≤ 99) (hg : ∀ k : Nat, k < 8 → 0 ≤ sGiven f s k ∧ sGiven f s k ≤ 5) (h : ∀ k : Nat, k < 8 → 0 ≤ sp k ∧ sp k ≤ 99) : ∀ k : Nat, k < 8 → 0 ≤ spS f w s sp k ∧ spS f w s sp k ≤ sp k := by
  intro k hk
  have hs := h k hk
  have kb : 0 ≤ fewS f w s ∧ fewS f w s ≤ 1000000 := fewT_bd _ _ _ _
  unfold spS
  by_cases g : fewS f w s = 1000000
  · rw [if_pos g]; omega
  · rw [if_neg g]
    by_cases g2 : (k : Int) < f 0
    · rw [if_pos g2]
      have b := stk_bd (f := f) (s := s) (hw k hk) (hg k hk)
      have t := takS_le (w := w) (s := s) (k := k) hN.1 (by omega) g2 b.1
      have e : behS f w s k = stk f w s k - takS f w s k := rfl
      by_cases g3 : fullS f w s = 1 ∧ 100 ≤ behS f w s k
      · rw [if_pos g3]; omega
      · rw [if_neg g3]; omega
    · rw [if_neg g2]; omega
theorem spF_bd {f : Nat → Int} (hG : GR f) {a : Nat} {L : LfS} {sp : Nat → Int} (hL : LI 0 L) (h : ∀ k : Nat, k < 8 → 0 ≤ sp k ∧ sp k ≤ 99) : ∀ i : Nat, (a : Int) + i ≤ f 2 → ∀ k : Nat, k < 8 → 0 ≤ spF f a L sp i k ∧ spF f a L sp i k ≤ sp k
  | 0, _ => fun k hk => ⟨(h k hk).1, Int.le_refl _⟩
  | i + 1, hi => fun k hk => by
    have ih := spF_bd (a := a) (L := L) hG (sp := sp) hL h i (by omega)
    have g7 := (hG.2.2.2.2.2.2.2.1 (a + i) (by omega)).2.2.1
    have q := spS_bd (sp := spF f a L sp i) (s := a + i) hG.1 (blk_LI (a := a) (L := L) hG hL i (by omega)).1.1.1 g7 (fun k hk => by have := ih k hk; have := h k hk; omega) k hk
    have := ih k hk
    exact ⟨q.1, Int.le_trans q.2 this.2⟩
theorem blk_sh {f : Nat → Int} {a : Nat} {L : LfS} : ∀ (i j : Nat), i ≤ j → (blkF f a L i).2.2.1 ≤ (blkF f a L j).2.2.1
  | i, 0, h => by obtain rfl : i = 0 := by omega
                  exact Int.le_refl _
  | i, j + 1, h => by
    by_cases e : i = j + 1
    · subst e; exact Int.le_refl _
    · have ih := blk_sh (f := f) (a := a) (L := L) i j (by omega)
      have e2 : (blkF f a L (j + 1)).2.2.1 = (blkF f a L j).2.2.1 + (if shortS f (blkF f a L j).1 (a + j) = true then 1 else 0) := rfl
      rw [e2]
      split <;> omega
theorem spS_congr {f w : Nat → Int} {s : Nat} {sp sp' : Nat → Int} (h : ∀ k : Nat, k < 8 → sp k = sp' k) {j : Nat} (hj : j < 8) : spS f w s sp j = spS f w s sp' j := by
  unfold spS
  rw [h j hj]
theorem dX2_liveFrom_0 : decode cX2_liveFrom 0 = .ok (.aload_n 0, 1) := by decide +kernel
theorem dX2_liveFrom_1 : decode cX2_liveFrom 1 = .ok (.aload_n 1, 1) := by decide +kernel
theorem dX2_liveFrom_2 : decode cX2_liveFrom 2 = .ok (.invokevirtual 31, 3) := by decide +kernel
theorem dX2_liveFrom_5 : decode cX2_liveFrom 5 = .ok (.aload_n 2, 1) := by decide +kernel
theorem dX2_liveFrom_6 : decode cX2_liveFrom 6 = .ok (.iload_n 3, 1) := by decide +kernel
theorem dX2_liveFrom_7 : decode cX2_liveFrom 7 = .ok (.invokevirtual 35, 3) := by decide +kernel
theorem dX2_liveFrom_10 : decode cX2_liveFrom 10 = .ok (.istore 4, 2) := by decide +kernel
theorem dX2_liveFrom_12 : decode cX2_liveFrom 12 = .ok (.iconst 0, 1) := by decide +kernel
theorem dX2_liveFrom_13 : decode cX2_liveFrom 13 = .ok (.istore 5, 2) := by decide +kernel
theorem dX2_liveFrom_15 : decode cX2_liveFrom 15 = .ok (.iload 5, 2) := by decide +kernel
theorem dX2_liveFrom_17 : decode cX2_liveFrom 17 = .ok (.iload 4, 2) := by decide +kernel
theorem dX2_liveFrom_19 : decode cX2_liveFrom 19 = .ok (.if_icmp .ge 21, 3) := by decide +kernel
theorem dX2_liveFrom_22 : decode cX2_liveFrom 22 = .ok (.aload_n 0, 1) := by decide +kernel
theorem dX2_liveFrom_23 : decode cX2_liveFrom 23 = .ok (.aload_n 2, 1) := by decide +kernel
theorem dX2_liveFrom_24 : decode cX2_liveFrom 24 = .ok (.aload_n 2, 1) := by decide +kernel
theorem dX2_liveFrom_25 : decode cX2_liveFrom 25 = .ok (.iload_n 3, 1) := by decide +kernel
theorem dX2_liveFrom_26 : decode cX2_liveFrom 26 = .ok (.invokevirtual 41, 3) := by decide +kernel
theorem dX2_liveFrom_29 : decode cX2_liveFrom 29 = .ok (.iload 5, 2) := by decide +kernel
theorem dX2_liveFrom_31 : decode cX2_liveFrom 31 = .ok (.invokevirtual 44, 3) := by decide +kernel
theorem dX2_liveFrom_34 : decode cX2_liveFrom 34 = .ok (.iinc 5 1, 3) := by decide +kernel
theorem dX2_liveFrom_37 : decode cX2_liveFrom 37 = .ok (.goto (-22), 3) := by decide +kernel
theorem dX2_liveFrom_40 : decode cX2_liveFrom 40 = .ok (.return_, 1) := by decide +kernel
set_option maxHeartbeats 4000000 in
set_option maxRecDepth 100000 in
theorem m_X2_liveFrom (l : Launch) (f : Nat → Int) (R : Nat) (d : Int) (mem : Mem) (hCI : CI mem) (hRS : RS mem 21 f) (hG : GR f) (hR : shp[R]? = some (.inr (.inl (0, 8)))) (hRn : R = 180 ∨ R < 179 ∨ 206 < R) (hW : ∀ k : Nat, k < 8 → 0 ≤ mem R k ∧ mem R k ≤ 99) (hd : 0 ≤ d ∧ d < f 1) : Ret shp l yX2_liveFrom cX2_liveFrom 6 none 5 [pR 179, pR R, pR 21, pI d] mem (fun rv mv => rv = none ∧ (∀ c, c < 179 ∨ 206 < c → mv c = mem c) ∧ CI mv ∧ LRepC mv (lifeN f d (life0 (mem R) (fun _ => 0)) (f 2).toNat) ∧ ∀ j : Nat, j < 8 → mv 182 j = (spF f (dayA f d).toNat (life0 (mem R) (fun _ => 0)) (mem R) (dayC f d).toNat) j) := by
  refine ret_of (by decide +kernel) (Nat.le_of_ble_eq_true rfl) (fun X hX F G => ?_)
  show Ok shp X 6 0 [(0, pR 179), (1, pR R), (2, pR 21), (3, pI d)] [] mem
  refine ok_aload_n F dX2_liveFrom_0 0 rfl ?_
  refine ok_aload_n F dX2_liveFrom_1 1 rfl ?_
  refine ok_callv F [pR R] dX2_liveFrom_2 kM_X2_begin kI_X2_begin kV_X2_begin kL_X2_31 (ci := 2) rfl sh_179 rfl (by decide) (Nat.le_of_ble_eq_true rfl) rfl (m_X2_begin _ R mem (hR) (hRn)) ?_
  rintro _ m_2 ⟨rfl, r_3⟩
  obtain ⟨b1, b2, b3, b4, b5, b6, b7⟩ := id r_3
  obtain ⟨mB, hmB⟩ : ∃ x, x = m_2 := ⟨_, rfl⟩
  rw [← hmB] at b1 b2 b3 b4 b5 b6 b7
  have hRSb : RS mB 21 f := hRS.congr (fun c c1 c2 => b1 c (by omega) (by omega) (by omega) (by omega))
  have hCb : CI mB := hCI.congr (fun c c1 c2 c3 c4 => b1 c (by omega) (by omega) (by omega) (by omega))
  have e1 : mB 21 1 = f 1 := hRSb.2.1
  have ens : nsaD (mB 29) (mB 21 1) d = dayC f d := by rw [e1]; exact hRSb.nsa hG hd
  obtain ⟨d1, d2, d3, d4⟩ := day_iff hG hd.1
  have hL0 : LI 0 (life0 (mem R) (fun _ => 0)) := LI.start hW
  have gb1 := hG.2.1
  have gb2 := hG.2.2.1
  have e29 : mB 21 1 = f 1 := hRSb.2.1
  refine ok_aload_n F dX2_liveFrom_5 2 rfl ?_
  refine ok_iload_n F dX2_liveFrom_6 3 rfl ?_
  refine ok_callv F [pI d] dX2_liveFrom_7 kM_X6_salesOf kI_X6_salesOf kV_X6_salesOf kL_X2_35 (ci := 6) rfl sh_21 rfl (by decide) (Nat.le_of_ble_eq_true rfl) rfl (m_X6_salesOf_21 _ d m_2 (by omega) (by rw [← hmB, e1]; exact hG.2.1)) ?_
  rintro _ _ ⟨rfl, rfl⟩
  refine ok_istore (lv' := [(4, pI (nsaD (m_2 29) (m_2 21 1) d)), (0, pR 179), (1, pR R), (2, pR 21), (3, pI d)]) F dX2_liveFrom_10 (by decide) rfl ?_
  refine ok_iconst F dX2_liveFrom_12 ?_
  refine ok_istore (lv' := [(5, pI 0), (4, pI (nsaD (m_2 29) (m_2 21 1) d)), (0, pR 179), (1, pR R), (2, pR 21), (3, pI d)]) F dX2_liveFrom_13 (by decide) rfl ?_
  have hL_15 : ∀ (n_15 : Nat) (i : Int) (m : Mem), (0 ≤ i ∧ i ≤ dayC f d ∧ (∀ c, c < 179 ∨ 206 < c → m c = mem c) ∧ CI m ∧ LRepC m (blkF f (dayA f d).toNat (life0 (mem R) (fun _ => 0)) i.toNat) ∧ ∀ j : Nat, j < 8 → m 182 j = (spF f (dayA f d).toNat (life0 (mem R) (fun _ => 0)) (mem R) i.toNat) j) → (dayC f d - i).toNat = n_15 → Ok shp X 6 15 [(0, pR 179), (1, pR R), (2, pR 21), (3, pI d), (4, pI (nsaD (m_2 29) (m_2 21 1) d)), (5, pI i)] [] m := by
    intro n_15
    induction n_15 using Nat.strongRecOn with
    | _ n_15 ih_15 =>
      intro i m hI_15 hn_15
      obtain ⟨hi0, hi1, hF, hC, hLR, hsp⟩ := hI_15
      have hRSm : RS m 21 f := hRS.congr (fun c c1 c2 => hF c (by omega))
      have efst : fstD (m 29) d = dayA f d := hRSm.fst hG (by omega)
      have hLI := blk_LI hG (a := (dayA f d).toNat) hL0 i.toNat (by omega)
      refine ok_iload F dX2_liveFrom_15 5 rfl ?_
      refine ok_iload F dX2_liveFrom_17 4 rfl ?_
      refine ok_icmp_ge F 40 dX2_liveFrom_19 (by decide) (by omega) (by rw [← hmB, ens]; omega) (fun c_4 => ?_) (fun c_4 => ?_)
      · refine ok_vret F G dX2_liveFrom_40 ?_
        have ec := c_4
        rw [← hmB, ens] at ec
        have ei : i = dayC f d := by omega
        subst ei
        refine ⟨rfl, hF, hC, ?_, hsp⟩
        rw [day_life hG hd.1]
        exact hLR
      · have ec := c_4
        rw [← hmB, ens] at ec
        refine ok_aload_n F dX2_liveFrom_22 0 rfl ?_
        refine ok_aload_n F dX2_liveFrom_23 2 rfl ?_
        refine ok_aload_n F dX2_liveFrom_24 2 rfl ?_
        refine ok_iload_n F dX2_liveFrom_25 3 rfl ?_
        refine ok_callv F [pI d] dX2_liveFrom_26 kM_X6_firstSale kI_X6_firstSale kV_X6_firstSale kL_X2_41 (ci := 6) rfl sh_21 rfl (by decide) (Nat.le_of_ble_eq_true rfl) rfl (m_X6_firstSale_21 _ d m (by omega)) ?_
        rintro _ _ ⟨rfl, rfl⟩
        refine ok_iload F dX2_liveFrom_29 5 rfl ?_
        refine ok_callv F [pR 21, pI (fstD (m 29) d), pI i] dX2_liveFrom_31 kM_X2_meetSale kI_X2_meetSale kV_X2_meetSale kL_X2_44 (ci := 2) rfl sh_179 rfl (by decide) (Nat.le_of_ble_eq_true rfl) rfl (m_X2_meetSale _ f (blkF f (dayA f d).toNat (life0 (mem R) (fun _ => 0)) i.toNat) i.toNat (fstD (m 29) d) i m (hC) (hRSm) (hG) (by rw [efst]; omega) (hLR) (hLI.1) (by have := hG.2.2.1; omega) (by rw [hLI.2]; show i = 0 + ((i.toNat : Nat) : Int); omega) (fun j hj => by rw [hsp j hj]; have q := spF_bd (a := (dayA f d).toNat) hG hL0 (sp := mem R) hW i.toNat (by omega) j hj; have q2 := hW j hj; omega)) ?_
        rintro _ m_6 ⟨rfl, r_7⟩
        obtain ⟨n1, n2, n3, n4⟩ := id r_7
        rw [efst, show (dayA f d + i).toNat = (dayA f d).toNat + i.toNat by omega] at n3 n4
        refine ok_iinc (lv' := [(5, pI (i + 1)), (0, pR 179), (1, pR R), (2, pR 21), (3, pI d), (4, pI (nsaD (m_2 29) (m_2 21 1) d))]) F dX2_liveFrom_34 5 rfl (by decide) rfl ?_
        refine ok_goto F 15 dX2_liveFrom_37 (by decide) ?_
        refine ok_lvp [1, 2, 3, 4, 5, 0] (lv' := [(0, pR 179), (1, pR R), (2, pR 21), (3, pI d), (4, pI (nsaD (m_2 29) (m_2 21 1) d)), (5, pI (i + 1))]) rfl ?_
        refine ih_15 _ ?_ (i + 1) m_6 ?_ rfl
        · omega
        · have ei : (i + 1).toNat = i.toNat + 1 := by omega
          rw [ei]
          exact ⟨by omega, by omega, fun c hc => by rw [n1 c hc]; exact hF c hc, n2, n3, fun j hj => by rw [n4 j hj]; exact spS_congr (fun k hk => hsp k hk) hj⟩
  refine ok_lvp [2, 3, 4, 5, 1, 0] (lv' := [(0, pR 179), (1, pR R), (2, pR 21), (3, pI d), (4, pI (nsaD (m_2 29) (m_2 21 1) d)), (5, pI 0)]) rfl ?_
  refine hL_15 _ 0 m_2 ?_ rfl
  rw [← hmB]
  refine ⟨by omega, by omega, fun c hc => b1 c (by omega) (by omega) (by omega) (by omega), hCb, ?_, fun j hj => (b2 j hj).2.2⟩
  refine ⟨fun k hk => (b2 k hk).1, fun k hk => ?_, b3, b4, b5, b6, b7⟩
  rw [(b2 k hk).2.1]
  exact (if_pos hk).symm
theorem dX2_isLivedWhole_0 : decode cX2_isLivedWhole 0 = .ok (.aload_n 0, 1) := by decide +kernel
theorem dX2_isLivedWhole_1 : decode cX2_isLivedWhole 1 = .ok (.aload_n 1, 1) := by decide +kernel
theorem dX2_isLivedWhole_2 : decode cX2_isLivedWhole 2 = .ok (.invokevirtual 31, 3) := by decide +kernel
theorem dX2_isLivedWhole_5 : decode cX2_isLivedWhole 5 = .ok (.aload_n 2, 1) := by decide +kernel
theorem dX2_isLivedWhole_6 : decode cX2_isLivedWhole 6 = .ok (.iload_n 3, 1) := by decide +kernel
theorem dX2_isLivedWhole_7 : decode cX2_isLivedWhole 7 = .ok (.invokevirtual 35, 3) := by decide +kernel
theorem dX2_isLivedWhole_10 : decode cX2_isLivedWhole 10 = .ok (.istore 4, 2) := by decide +kernel
theorem dX2_isLivedWhole_12 : decode cX2_isLivedWhole 12 = .ok (.iconst 0, 1) := by decide +kernel
theorem dX2_isLivedWhole_13 : decode cX2_isLivedWhole 13 = .ok (.istore 5, 2) := by decide +kernel
theorem dX2_isLivedWhole_15 : decode cX2_isLivedWhole 15 = .ok (.iload 5, 2) := by decide +kernel
theorem dX2_isLivedWhole_17 : decode cX2_isLivedWhole 17 = .ok (.iload 4, 2) := by decide +kernel
theorem dX2_isLivedWhole_19 : decode cX2_isLivedWhole 19 = .ok (.if_icmp .ge 28, 3) := by decide +kernel
theorem dX2_isLivedWhole_22 : decode cX2_isLivedWhole 22 = .ok (.aload_n 0, 1) := by decide +kernel
theorem dX2_isLivedWhole_23 : decode cX2_isLivedWhole 23 = .ok (.getfield 48, 3) := by decide +kernel
theorem dX2_isLivedWhole_26 : decode cX2_isLivedWhole 26 = .ok (.ifCond .ne 21, 3) := by decide +kernel
theorem dX2_isLivedWhole_29 : decode cX2_isLivedWhole 29 = .ok (.aload_n 0, 1) := by decide +kernel
theorem dX2_isLivedWhole_30 : decode cX2_isLivedWhole 30 = .ok (.aload_n 2, 1) := by decide +kernel
theorem dX2_isLivedWhole_31 : decode cX2_isLivedWhole 31 = .ok (.aload_n 2, 1) := by decide +kernel
theorem dX2_isLivedWhole_32 : decode cX2_isLivedWhole 32 = .ok (.iload_n 3, 1) := by decide +kernel
theorem dX2_isLivedWhole_33 : decode cX2_isLivedWhole 33 = .ok (.invokevirtual 41, 3) := by decide +kernel
theorem dX2_isLivedWhole_36 : decode cX2_isLivedWhole 36 = .ok (.iload 5, 2) := by decide +kernel
theorem dX2_isLivedWhole_38 : decode cX2_isLivedWhole 38 = .ok (.invokevirtual 44, 3) := by decide +kernel
theorem dX2_isLivedWhole_41 : decode cX2_isLivedWhole 41 = .ok (.iinc 5 1, 3) := by decide +kernel
theorem dX2_isLivedWhole_44 : decode cX2_isLivedWhole 44 = .ok (.goto (-29), 3) := by decide +kernel
theorem dX2_isLivedWhole_47 : decode cX2_isLivedWhole 47 = .ok (.aload_n 0, 1) := by decide +kernel
theorem dX2_isLivedWhole_48 : decode cX2_isLivedWhole 48 = .ok (.getfield 48, 3) := by decide +kernel
theorem dX2_isLivedWhole_51 : decode cX2_isLivedWhole 51 = .ok (.ifCond .ne 7, 3) := by decide +kernel
theorem dX2_isLivedWhole_54 : decode cX2_isLivedWhole 54 = .ok (.iconst 1, 1) := by decide +kernel
theorem dX2_isLivedWhole_55 : decode cX2_isLivedWhole 55 = .ok (.goto 4, 3) := by decide +kernel
theorem dX2_isLivedWhole_58 : decode cX2_isLivedWhole 58 = .ok (.iconst 0, 1) := by decide +kernel
theorem dX2_isLivedWhole_59 : decode cX2_isLivedWhole 59 = .ok (.ireturn, 1) := by decide +kernel
set_option maxHeartbeats 4000000 in
set_option maxRecDepth 100000 in
theorem m_X2_isLivedWhole (l : Launch) (f : Nat → Int) (R : Nat) (d : Int) (mem : Mem) (hCI : CI mem) (hRS : RS mem 21 f) (hG : GR f) (hR : shp[R]? = some (.inr (.inl (0, 8)))) (hRn : R = 180 ∨ R < 179 ∨ 206 < R) (hW : ∀ k : Nat, k < 8 → 0 ≤ mem R k ∧ mem R k ≤ 99) (hd : 0 ≤ d ∧ d < f 1) : Ret shp l yX2_isLivedWhole cX2_isLivedWhole 6 (some .boolean) 5 [pR 179, pR R, pR 21, pI d] mem (fun rv mv => ∃ z, rv = some (pI z) ∧ (∀ c, c < 179 ∨ 206 < c → mv c = mem c) ∧ CI mv ∧ z = if (lifeN f d (life0 (mem R) (fun _ => 0)) (f 2).toNat).2.2.1 = 0 then 1 else 0) := by
  refine ret_of (by decide +kernel) (Nat.le_of_ble_eq_true rfl) (fun X hX F G => ?_)
  show Ok shp X 6 0 [(0, pR 179), (1, pR R), (2, pR 21), (3, pI d)] [] mem
  refine ok_aload_n F dX2_isLivedWhole_0 0 rfl ?_
  refine ok_aload_n F dX2_isLivedWhole_1 1 rfl ?_
  refine ok_callv F [pR R] dX2_isLivedWhole_2 kM_X2_begin kI_X2_begin kV_X2_begin kL_X2_31 (ci := 2) rfl sh_179 rfl (by decide) (Nat.le_of_ble_eq_true rfl) rfl (m_X2_begin _ R mem (hR) (hRn)) ?_
  rintro _ m_2 ⟨rfl, r_3⟩
  obtain ⟨b1, b2, b3, b4, b5, b6, b7⟩ := id r_3
  obtain ⟨mB, hmB⟩ : ∃ x, x = m_2 := ⟨_, rfl⟩
  rw [← hmB] at b1 b2 b3 b4 b5 b6 b7
  have hRSb : RS mB 21 f := hRS.congr (fun c c1 c2 => b1 c (by omega) (by omega) (by omega) (by omega))
  have hCb : CI mB := hCI.congr (fun c c1 c2 c3 c4 => b1 c (by omega) (by omega) (by omega) (by omega))
  have e1 : mB 21 1 = f 1 := hRSb.2.1
  have ens : nsaD (mB 29) (mB 21 1) d = dayC f d := by rw [e1]; exact hRSb.nsa hG hd
  obtain ⟨d1, d2, d3, d4⟩ := day_iff hG hd.1
  have hL0 : LI 0 (life0 (mem R) (fun _ => 0)) := LI.start hW
  have gb1 := hG.2.1
  have gb2 := hG.2.2.1
  have e29 : mB 21 1 = f 1 := hRSb.2.1
  refine ok_aload_n F dX2_isLivedWhole_5 2 rfl ?_
  refine ok_iload_n F dX2_isLivedWhole_6 3 rfl ?_
  refine ok_callv F [pI d] dX2_isLivedWhole_7 kM_X6_salesOf kI_X6_salesOf kV_X6_salesOf kL_X2_35 (ci := 6) rfl sh_21 rfl (by decide) (Nat.le_of_ble_eq_true rfl) rfl (m_X6_salesOf_21 _ d m_2 (by omega) (by rw [← hmB, e1]; exact hG.2.1)) ?_
  rintro _ _ ⟨rfl, rfl⟩
  refine ok_istore (lv' := [(4, pI (nsaD (m_2 29) (m_2 21 1) d)), (0, pR 179), (1, pR R), (2, pR 21), (3, pI d)]) F dX2_isLivedWhole_10 (by decide) rfl ?_
  refine ok_iconst F dX2_isLivedWhole_12 ?_
  refine ok_istore (lv' := [(5, pI 0), (4, pI (nsaD (m_2 29) (m_2 21 1) d)), (0, pR 179), (1, pR R), (2, pR 21), (3, pI d)]) F dX2_isLivedWhole_13 (by decide) rfl ?_
  have hL_15 : ∀ (n_15 : Nat) (i : Int) (m : Mem), (0 ≤ i ∧ i ≤ dayC f d ∧ (∀ c, c < 179 ∨ 206 < c → m c = mem c) ∧ CI m ∧ LRepC m (blkF f (dayA f d).toNat (life0 (mem R) (fun _ => 0)) i.toNat) ∧ ∀ j : Nat, j < 8 → m 182 j = (spF f (dayA f d).toNat (life0 (mem R) (fun _ => 0)) (mem R) i.toNat) j) → (dayC f d - i).toNat = n_15 → Ok shp X 6 15 [(0, pR 179), (1, pR R), (2, pR 21), (3, pI d), (4, pI (nsaD (m_2 29) (m_2 21 1) d)), (5, pI i)] [] m := by
    intro n_15
    induction n_15 using Nat.strongRecOn with
    | _ n_15 ih_15 =>
      intro i m hI_15 hn_15
      obtain ⟨hi0, hi1, hF, hC, hLR, hsp⟩ := hI_15
      have hRSm : RS m 21 f := hRS.congr (fun c c1 c2 => hF c (by omega))
      have efst : fstD (m 29) d = dayA f d := hRSm.fst hG (by omega)
      have hLI := blk_LI hG (a := (dayA f d).toNat) hL0 i.toNat (by omega)
      refine ok_iload F dX2_isLivedWhole_15 5 rfl ?_
      refine ok_iload F dX2_isLivedWhole_17 4 rfl ?_
      refine ok_icmp_ge F 47 dX2_isLivedWhole_19 (by decide) (by omega) (by rw [← hmB, ens]; omega) (fun c_4 => ?_) (fun c_4 => ?_)
      · have h34 : m 179 3 = _ := hLR.2.2.1
        have hlb1 := hLI.1.1.2.2.1
        have h2c := hG.2.2.1
        have ens2 := ens
        rw [hmB] at ens2
        refine ok_aload_n F dX2_isLivedWhole_47 0 rfl ?_
        refine ok_getf (v := m 179 3) F dX2_isLivedWhole_48 kF_X2_48 sh_179 rfl rfl ?_
        refine ok_if_ne F 58 dX2_isLivedWhole_51 (by decide) (by omega) (fun c_5 => ?_) (fun c_5 => ?_)
        · refine ok_iconst F dX2_isLivedWhole_58 ?_
          refine ok_zret F G dX2_isLivedWhole_59 (by first | rfl | exact zb_nar) ?_
          have hsm := blk_sh (f := f) (a := (dayA f d).toNat) (L := (life0 (mem R) (fun _ => 0))) i.toNat (dayC f d).toNat (by omega)
          have h3 : m 179 3 = _ := hLR.2.2.1
          have hlb := hLI.1.1.2.2.1
          refine ⟨_, rfl, hF, hC, ?_⟩
          rw [day_life hG hd.1]
          first
            | (have ei : i = dayC f d := by omega
               subst ei
               first | (rw [if_pos (by omega)]; done) | (rw [if_neg (by omega)]; done))
            | (first | (rw [if_pos (by omega)]; done) | (rw [if_neg (by omega)]; done))
        · refine ok_iconst F dX2_isLivedWhole_54 ?_
          refine ok_goto F 59 dX2_isLivedWhole_55 (by decide) ?_
          refine ok_zret F G dX2_isLivedWhole_59 (by first | rfl | exact zb_nar) ?_
          have hsm := blk_sh (f := f) (a := (dayA f d).toNat) (L := (life0 (mem R) (fun _ => 0))) i.toNat (dayC f d).toNat (by omega)
          have h3 : m 179 3 = _ := hLR.2.2.1
          have hlb := hLI.1.1.2.2.1
          refine ⟨_, rfl, hF, hC, ?_⟩
          rw [day_life hG hd.1]
          first
            | (have ei : i = dayC f d := by omega
               subst ei
               first | (rw [if_pos (by omega)]; done) | (rw [if_neg (by omega)]; done))
            | (first | (rw [if_pos (by omega)]; done) | (rw [if_neg (by omega)]; done))
      · have ec := c_4
        rw [← hmB, ens] at ec
        have h33 : m 179 3 = _ := hLR.2.2.1
        have hlb0 := hLI.1.1.2.2.1
        have h2b := hG.2.2.1
        refine ok_aload_n F dX2_isLivedWhole_22 0 rfl ?_
        refine ok_getf (v := m 179 3) F dX2_isLivedWhole_23 kF_X2_48 sh_179 rfl rfl ?_
        refine ok_if_ne F 47 dX2_isLivedWhole_26 (by decide) (by omega) (fun c_6 => ?_) (fun c_6 => ?_)
        · have h34 : m 179 3 = _ := hLR.2.2.1
          have hlb1 := hLI.1.1.2.2.1
          have h2c := hG.2.2.1
          have ens2 := ens
          rw [hmB] at ens2
          refine ok_aload_n F dX2_isLivedWhole_47 0 rfl ?_
          refine ok_getf (v := m 179 3) F dX2_isLivedWhole_48 kF_X2_48 sh_179 rfl rfl ?_
          refine ok_if_ne F 58 dX2_isLivedWhole_51 (by decide) (by omega) (fun c_7 => ?_) (fun c_7 => ?_)
          · refine ok_iconst F dX2_isLivedWhole_58 ?_
            refine ok_zret F G dX2_isLivedWhole_59 (by first | rfl | exact zb_nar) ?_
            have hsm := blk_sh (f := f) (a := (dayA f d).toNat) (L := (life0 (mem R) (fun _ => 0))) i.toNat (dayC f d).toNat (by omega)
            have h3 : m 179 3 = _ := hLR.2.2.1
            have hlb := hLI.1.1.2.2.1
            refine ⟨_, rfl, hF, hC, ?_⟩
            rw [day_life hG hd.1]
            first
              | (have ei : i = dayC f d := by omega
                 subst ei
                 first | (rw [if_pos (by omega)]; done) | (rw [if_neg (by omega)]; done))
              | (first | (rw [if_pos (by omega)]; done) | (rw [if_neg (by omega)]; done))
          · refine ok_iconst F dX2_isLivedWhole_54 ?_
            refine ok_goto F 59 dX2_isLivedWhole_55 (by decide) ?_
            refine ok_zret F G dX2_isLivedWhole_59 (by first | rfl | exact zb_nar) ?_
            have hsm := blk_sh (f := f) (a := (dayA f d).toNat) (L := (life0 (mem R) (fun _ => 0))) i.toNat (dayC f d).toNat (by omega)
            have h3 : m 179 3 = _ := hLR.2.2.1
            have hlb := hLI.1.1.2.2.1
            refine ⟨_, rfl, hF, hC, ?_⟩
            rw [day_life hG hd.1]
            first
              | (have ei : i = dayC f d := by omega
                 subst ei
                 first | (rw [if_pos (by omega)]; done) | (rw [if_neg (by omega)]; done))
              | (first | (rw [if_pos (by omega)]; done) | (rw [if_neg (by omega)]; done))
        · refine ok_aload_n F dX2_isLivedWhole_29 0 rfl ?_
          refine ok_aload_n F dX2_isLivedWhole_30 2 rfl ?_
          refine ok_aload_n F dX2_isLivedWhole_31 2 rfl ?_
          refine ok_iload_n F dX2_isLivedWhole_32 3 rfl ?_
          refine ok_callv F [pI d] dX2_isLivedWhole_33 kM_X6_firstSale kI_X6_firstSale kV_X6_firstSale kL_X2_41 (ci := 6) rfl sh_21 rfl (by decide) (Nat.le_of_ble_eq_true rfl) rfl (m_X6_firstSale_21 _ d m (by omega)) ?_
          rintro _ _ ⟨rfl, rfl⟩
          refine ok_iload F dX2_isLivedWhole_36 5 rfl ?_
          refine ok_callv F [pR 21, pI (fstD (m 29) d), pI i] dX2_isLivedWhole_38 kM_X2_meetSale kI_X2_meetSale kV_X2_meetSale kL_X2_44 (ci := 2) rfl sh_179 rfl (by decide) (Nat.le_of_ble_eq_true rfl) rfl (m_X2_meetSale _ f (blkF f (dayA f d).toNat (life0 (mem R) (fun _ => 0)) i.toNat) i.toNat (fstD (m 29) d) i m (hC) (hRSm) (hG) (by rw [efst]; omega) (hLR) (hLI.1) (by have := hG.2.2.1; omega) (by rw [hLI.2]; show i = 0 + ((i.toNat : Nat) : Int); omega) (fun j hj => by rw [hsp j hj]; have q := spF_bd (a := (dayA f d).toNat) hG hL0 (sp := mem R) hW i.toNat (by omega) j hj; have q2 := hW j hj; omega)) ?_
          rintro _ m_9 ⟨rfl, r_10⟩
          obtain ⟨n1, n2, n3, n4⟩ := id r_10
          rw [efst, show (dayA f d + i).toNat = (dayA f d).toNat + i.toNat by omega] at n3 n4
          refine ok_iinc (lv' := [(5, pI (i + 1)), (0, pR 179), (1, pR R), (2, pR 21), (3, pI d), (4, pI (nsaD (m_2 29) (m_2 21 1) d))]) F dX2_isLivedWhole_41 5 rfl (by decide) rfl ?_
          refine ok_goto F 15 dX2_isLivedWhole_44 (by decide) ?_
          refine ok_lvp [1, 2, 3, 4, 5, 0] (lv' := [(0, pR 179), (1, pR R), (2, pR 21), (3, pI d), (4, pI (nsaD (m_2 29) (m_2 21 1) d)), (5, pI (i + 1))]) rfl ?_
          refine ih_15 _ ?_ (i + 1) m_9 ?_ rfl
          · omega
          · have ei : (i + 1).toNat = i.toNat + 1 := by omega
            rw [ei]
            exact ⟨by omega, by omega, fun c hc => by rw [n1 c hc]; exact hF c hc, n2, n3, fun j hj => by rw [n4 j hj]; exact spS_congr (fun k hk => hsp k hk) hj⟩
  refine ok_lvp [2, 3, 4, 5, 1, 0] (lv' := [(0, pR 179), (1, pR R), (2, pR 21), (3, pI d), (4, pI (nsaD (m_2 29) (m_2 21 1) d)), (5, pI 0)]) rfl ?_
  refine hL_15 _ 0 m_2 ?_ rfl
  rw [← hmB]
  refine ⟨by omega, by omega, fun c hc => b1 c (by omega) (by omega) (by omega) (by omega), hCb, ?_, fun j hj => (b2 j hj).2.2⟩
  refine ⟨fun k hk => (b2 k hk).1, fun k hk => ?_, b3, b4, b5, b6, b7⟩
  rw [(b2 k hk).2.1]
  exact (if_pos hk).symm
