/-! a day lived from a row of which only the first kinds' places are known -/
def cutR (f w : Nat → Int) : Nat → Int := fun k => if (k : Int) < f 0 then w k else 0
def cutL (f : Nat → Int) (L : LfS) : LfS := (cutR f L.1, cutR f L.2.1, L.2.2)
theorem cutR_at {f w : Nat → Int} {k : Nat} (h : (k : Int) < f 0) : cutR f w k = w k := if_pos h
theorem sale_cut {f w w2 : Nat → Int} {s : Nat} (h : ∀ k : Nat, (k : Int) < f 0 → w k = w2 k) : shortS f w s = shortS f w2 s ∧ pcsS f w s = pcsS f w2 s ∧ fewS f w s = fewS f w2 s ∧ (∀ k : Nat, (k : Int) < f 0 → behS f w s k = behS f w2 s k) ∧ ∀ k : Nat, (k : Int) < f 0 → rowS f w s k = rowS f w2 s k := by
  have e1 : ∀ i : Nat, (i : Int) < f 0 → stk f w s i = stk f w2 s i := fun i hi => by unfold stk; rw [h i hi]
  have e2 : fewS f w s = fewS f w2 s := fewT_congr _ (fun i hi => by rw [e1 i (by omega)])
  have e3 : ∀ k, takS f w s k = takS f w2 s k := fun k => by unfold takS; rw [takR_congr (c' := fun i => (stk f w2 s i).toNat) _ k (fun i hi => by rw [e1 i (by omega)])]
  have e4 : shortS f w s = shortS f w2 s := by
    unfold shortS
    rw [e2, anyN_congr (g := overS f w2 s) (fun i hi => by unfold overS; rw [e1 i (by omega), e3])]
  exact ⟨e4, by unfold pcsS; rw [e4, e2], e2, fun k hk => by unfold behS; rw [e1 k hk, e3], fun k hk => by unfold rowS; rw [e4, e1 k hk, e3, h k hk]⟩
def CE (f : Nat → Int) (L L2 : LfS) : Prop := (∀ k : Nat, (k : Int) < f 0 → L.1 k = L2.1 k) ∧ (∀ k : Nat, (k : Int) < f 0 → L.2.1 k = L2.2.1 k) ∧ L.2.2 = L2.2.2
theorem CE.cut (f : Nat → Int) (L : LfS) : CE f L (cutL f L) := ⟨fun _ hk => (if_pos hk).symm, fun _ hk => (if_pos hk).symm, rfl⟩
theorem CE.eq {f : Nat → Int} {L L2 : LfS} (h : CE f L L2) : cutL f L = cutL f L2 := by
  obtain ⟨h1, h2, h3⟩ := h
  have a : cutR f L.1 = cutR f L2.1 := by
    funext k
    unfold cutR
    by_cases g : (k : Int) < f 0
    · rw [if_pos g, if_pos g, h1 k g]
    · rw [if_neg g, if_neg g]
  have b : cutR f L.2.1 = cutR f L2.2.1 := by
    funext k
    unfold cutR
    by_cases g : (k : Int) < f 0
    · rw [if_pos g, if_pos g, h2 k g]
    · rw [if_neg g, if_neg g]
  unfold cutL
  rw [a, b, h3]
theorem CE.step {f : Nat → Int} {L L2 : LfS} (h : CE f L L2) (s : Nat) : CE f (lifeS f s L) (lifeS f s L2) := by
  obtain ⟨i1, i2, i3⟩ := h
  obtain ⟨a1, a2, a3, a4, a5, a6, a7, a8, a9⟩ := L
  obtain ⟨b1, b2, b3, b4, b5, b6, b7, b8, b9⟩ := L2
  dsimp only at i1 i2 i3
  obtain ⟨rfl, rfl, rfl, rfl, rfl, rfl, rfl⟩ : a3 = b3 ∧ a4 = b4 ∧ a5 = b5 ∧ a6 = b6 ∧ a7 = b7 ∧ a8 = b8 ∧ a9 = b9 := by
    simpa [Prod.mk.injEq] using i3
  obtain ⟨c1, c2, -, -, c3⟩ := sale_cut (s := s) i1
  refine ⟨fun k hk => c3 k hk, fun k hk => ?_, ?_⟩
  · show (if (k : Int) < f 0 then min (a2 k) (rowS f a1 s k) else a2 k) = (if (k : Int) < f 0 then min (b2 k) (rowS f b1 s k) else b2 k)
    rw [i2 k hk, c3 k hk]
  · have g : ∀ p q : Int, goneD (fun i => decide (rowS f a1 s i = 0) && decide (0 < a1 i)) a9 (f 0).toNat p q = goneD (fun i => decide (rowS f b1 s i = 0) && decide (0 < b1 i)) a9 (f 0).toNat p q := fun p q => goneD_congr (fun i hi => by rw [c3 i (by omega), i1 i (by omega)])
    unfold lifeS
    dsimp only
    rw [c1, c2, g]
theorem CE.life {f : Nat → Int} {d : Int} {L L2 : LfS} (h : CE f L L2) : ∀ n : Nat, CE f (lifeN f d L n) (lifeN f d L2 n)
  | 0 => h
  | n + 1 => by
    unfold lifeN
    by_cases g : sDay f n = d
    · rw [if_pos g, if_pos g]; exact (CE.life h n).step n
    · rw [if_neg g, if_neg g]; exact CE.life h n
theorem shR_cut {f w w2 : Nat → Int} {d : Int} {n2 : Nat} (h8 : f 0 ≤ 8) (h : ∀ k : Nat, (k : Int) < f 0 → w k = w2 k) : shR f d n2 w = shR f d n2 w2 := by
  have c : CE f (life0 w (fun _ => 0)) (life0 w2 (fun _ => 0)) := ⟨h, fun k hk => by
    show (if k < 8 then w k else 0) = (if k < 8 then w2 k else 0)
    rw [h k hk], rfl⟩
  unfold shR
  rw [(c.life n2).2.2]
theorem LI.cut {f : Nat → Int} {n : Nat} {L : LfS} (h : LI n L) : LI n (cutL f L) := by
  obtain ⟨⟨h1, h2, h3⟩, h4, h5⟩ := h
  refine ⟨⟨fun k hk => ?_, fun k hk => ?_, h3⟩, fun k hk => ?_, h5⟩
  · show 0 ≤ (if (k : Int) < f 0 then L.1 k else 0) ∧ (if (k : Int) < f 0 then L.1 k else 0) ≤ 99
    have := h1 k hk
    split <;> omega
  · show 0 ≤ (if (k : Int) < f 0 then L.2.1 k else 0) ∧ (if (k : Int) < f 0 then L.2.1 k else 0) ≤ 99
    have := h2 k hk
    split <;> omega
  · show (if (k : Int) < f 0 then L.2.1 k else 0) ≤ (if (k : Int) < f 0 then L.1 k else 0)
    have := h4 k hk
    split <;> omega
theorem LIn.step {f : Nat → Int} {s n : Nat} {L : LfS} (hN : f 0 ≤ 8) (hg : ∀ k : Nat, k < 8 → 0 ≤ sGiven f s k) (h : LI n (cutL f L)) : LI (n + 1) (cutL f (lifeS f s L)) := by
  rw [((CE.cut f L).step s).eq]
  exact (LI.step hN hg h).cut
theorem LIn.start {f w : Nat → Int} (h8 : f 0 ≤ 8) (h : ∀ k : Nat, (k : Int) < f 0 → 0 ≤ w k ∧ w k ≤ 99) : LI 0 (cutL f (life0 w (fun _ => 0))) := by
  have e : cutL f (life0 w (fun _ => 0)) = life0 (cutR f w) (fun _ => 0) := by
    have a : cutR f (fun i => if i < 8 then w i else 0) = fun i => if i < 8 then cutR f w i else 0 := by
      funext i
      show (if (i : Int) < f 0 then (if i < 8 then w i else 0) else 0) = (if i < 8 then (if (i : Int) < f 0 then w i else 0) else 0)
      by_cases g : (i : Int) < f 0
      · rw [if_pos g, if_pos (show i < 8 by omega), if_pos (show i < 8 by omega), if_pos g]
      · rw [if_neg g, if_neg g]; split <;> rfl
    show (cutR f w, cutR f (fun i => if i < 8 then w i else 0), _) = (cutR f w, (fun i => if i < 8 then cutR f w i else 0), _)
    rw [a]
    rfl
  rw [e]
  refine LI.start (fun k hk => ?_)
  unfold cutR
  by_cases g : (k : Int) < f 0
  · rw [if_pos g]; exact h k g
  · rw [if_neg g]; decide
theorem blk_LIn {f : Nat → Int} (hG : GR f) {a : Nat} {L : LfS} (h : LI 0 (cutL f L)) : ∀ i : Nat, (a : Int) + i ≤ f 2 → LI i (cutL f (blkF f a L i)) ∧ (blkF f a L i).2.2.2.2.2.2.2.2 = L.2.2.2.2.2.2.2.2 + i
  | 0, _ => ⟨h, by show _ = _ + ((0 : Nat) : Int); simp [blkF]⟩
  | i + 1, hi => by
    obtain ⟨h1, h2⟩ := blk_LIn (a := a) (L := L) hG h i (by omega)
    have g7 := (hG.2.2.2.2.2.2.2.1 (a + i) (by omega)).2.2.1
    refine ⟨LIn.step hG.1.2 (fun k hk => (g7 k hk).1) h1, ?_⟩
    show (lifeS f (a + i) (blkF f a L i)).2.2.2.2.2.2.2.2 = _
    have e : (lifeS f (a + i) (blkF f a L i)).2.2.2.2.2.2.2.2 = (blkF f a L i).2.2.2.2.2.2.2.2 + 1 := rfl
    rw [e, h2]
    omega
theorem spS_cut {f w w2 : Nat → Int} {s : Nat} {sp sp2 : Nat → Int} {k : Nat} (hk : (k : Int) < f 0) (h : ∀ k : Nat, (k : Int) < f 0 → w k = w2 k) (hs : sp k = sp2 k) : spS f w s sp k = spS f w2 s sp2 k := by
  obtain ⟨-, -, c2, c3, -⟩ := sale_cut (s := s) h
  have c4 : fullS f w s = fullS f w2 s := by
    unfold fullS
    exact sumN_congr (fun i hi => by rw [c3 i (by omega)])
  unfold spS
  rw [c2, c4, c3 k hk, hs]
theorem spF_bdn {f : Nat → Int} (hG : GR f) {a : Nat} {L : LfS} {sp : Nat → Int} (hL : LI 0 (cutL f L)) (h : ∀ k : Nat, (k : Int) < f 0 → 0 ≤ sp k ∧ sp k ≤ 99) : ∀ i : Nat, (a : Int) + i ≤ f 2 → ∀ k : Nat, (k : Int) < f 0 → 0 ≤ spF f a L sp i k ∧ spF f a L sp i k ≤ sp k
  | 0, _ => fun k hk => ⟨(h k hk).1, Int.le_refl _⟩
  | i + 1, hi => fun k hk => by
    have ih := spF_bdn (a := a) (L := L) hG (sp := sp) hL h i (by omega)
    have g0 := hG.1
    have g7 := (hG.2.2.2.2.2.2.2.1 (a + i) (by omega)).2.2.1
    have q := spS_bd (w := cutR f (blkF f a L i).1) (sp := cutR f (spF f a L sp i)) (s := a + i) hG.1 (blk_LIn (a := a) (L := L) hG hL i (by omega)).1.1.1 g7 (fun k hk => by
      unfold cutR
      by_cases g : (k : Int) < f 0
      · rw [if_pos g]; have := ih k g; have := h k g; omega
      · rw [if_neg g]; decide) k (by omega)
    have e := spS_cut (f := f) (w := cutR f (blkF f a L i).1) (w2 := (blkF f a L i).1) (s := a + i) (sp := cutR f (spF f a L sp i)) (sp2 := spF f a L sp i) hk (fun k hk => cutR_at hk) (cutR_at hk)
    rw [e, cutR_at hk] at q
    have := ih k hk
    show 0 ≤ spS f (blkF f a L i).1 (a + i) (spF f a L sp i) k ∧ spS f (blkF f a L i).1 (a + i) (spF f a L sp i) k ≤ sp k
    omega
set_option maxHeartbeats 4000000 in
set_option maxRecDepth 100000 in
theorem m_X2_meetSale_n (l : Launch) (f : Nat → Int) (L : LfS) (n : Nat) (fa : Int) (q : Int) (mem : Mem) (hCI : CI mem) (hRS : RS mem 21 f) (hG : GR f) (hs : 0 ≤ fa ∧ 0 ≤ q ∧ fa + q < f 2) (hL : LRepC mem L) (hLI : LI n (cutL f L)) (hn : n ≤ 40) (hnum : q = L.2.2.2.2.2.2.2.2) (hsp : ∀ j : Nat, (j : Int) < f 0 → 0 ≤ mem 182 j ∧ mem 182 j ≤ 99) : Ret shp l yX2_meetSale cX2_meetSale 6 none 4 [pR 179, pR 21, pI fa, pI q] mem (fun rv mv => rv = none ∧ (∀ c, c < 179 ∨ 206 < c → mv c = mem c) ∧ CI mv ∧ LRepC mv (lifeS f (fa + q).toNat L) ∧ ∀ j : Nat, j < 8 → mv 182 j = spS f L.1 (fa + q).toNat (mem 182) j) := by
  refine ret_of (by decide +kernel) (Nat.le_of_ble_eq_true rfl) (fun X hX F G => ?_)
  show Ok shp X 6 0 [(0, pR 179), (1, pR 21), (2, pI fa), (3, pI q)] [] mem
  obtain ⟨r0, r1, rr, rs, rd⟩ := id hRS
  obtain ⟨g0, g1, g2, g3, g4, g5, g6, g7, g8, g9⟩ := id hG
  obtain ⟨w, low, sh, pc, gd, fs, gs, gk, nu⟩ := L
  obtain ⟨l1, l2, l3, l4, l5, l6, l7⟩ := id hL
  obtain ⟨b0, b1, b2, b3⟩ := id hLI
  obtain ⟨b4c, b5c, b6, b7, b8, b9, b10⟩ := id b0
  dsimp only at l1 l2 l3 l4 l5 l6 l7 b2 b3 b6 b7 b8 b9 b10 hnum
  have b4 : ∀ k : Nat, (k : Int) < f 0 → 0 ≤ w k ∧ w k ≤ 99 := fun k hk => by
    have q := b4c k (by omega)
    have e : (cutL f (w, low, sh, pc, gd, fs, gs, gk, nu)).1 k = w k := if_pos hk
    rw [e] at q
    exact q
  have b5 : ∀ k : Nat, (k : Int) < f 0 → 0 ≤ low k ∧ low k ≤ 99 := fun k hk => by
    have q := b5c k (by omega)
    have e : (cutL f (w, low, sh, pc, gd, fs, gs, gk, nu)).2.1 k = low k := if_pos hk
    rw [e] at q
    exact q
  have b1n : ∀ k : Nat, (k : Int) < f 0 → low k ≤ w k := fun k hk => by
    have q := b1 k (by omega)
    have e : (cutL f (w, low, sh, pc, gd, fs, gs, gk, nu)).1 k = w k := if_pos hk
    have e2 : (cutL f (w, low, sh, pc, gd, fs, gs, gk, nu)).2.1 k = low k := if_pos hk
    rw [e, e2] at q
    exact q
  have b6x := b6
  have b2x := b2
  have b3x := b3
  change 0 ≤ sh ∧ sh ≤ (n : Int) at b6
  change (sh = 0 ∧ fs = -2) ∨ (1 ≤ sh ∧ 0 ≤ fs) at b2
  change gs = -2 ∨ 0 ≤ gs at b3
  change 0 ≤ gd ∧ gd ≤ (n : Int) at b7
  change -2 ≤ fs ∧ fs ≤ (n : Int) at b8
  change -2 ≤ gs ∧ gs ≤ (n : Int) at b9
  change 0 ≤ nu ∧ nu ≤ (n : Int) at b10
  obtain ⟨s, hs0⟩ : ∃ s : Nat, s = (fa + q).toNat := ⟨_, rfl⟩
  have hs2 : (s : Int) < f 2 := by omega
  obtain ⟨rp, rg⟩ := rs s hs2
  obtain ⟨-, gp, gg, gab⟩ := g7 s hs2
  have rp2 : mem 30 s = sPrice f s := rp
  have rg2 : ∀ k : Nat, k < 8 → mem 31 (8 * s + k) = sGiven f s k := rg
  have e22 : ∀ k : Nat, k < 8 → mem 22 k = f (3 + k) := fun k hk => rr 0 (by decide) k hk
  have hN : 0 ≤ mem 21 0 ∧ mem 21 0 ≤ 8 := by rw [r0]; exact g0
  have hV : ∀ i : Nat, i < 8 → 0 ≤ mem 22 i ∧ mem 22 i ≤ 500 := fun i hi => by rw [e22 i hi]; exact g3 i hi
  have hV1 : ∀ i : Nat, (i : Int) < mem 21 0 → 1 ≤ mem 22 i := fun i hi => by rw [e22 i (by omega)]; exact g4 i (by omega)
  have hsb : ∀ k : Nat, (k : Int) < f 0 → 0 ≤ stk f w s k ∧ stk f w s k ≤ 104 := fun k hk => stk_bd (b4 k hk) (gg k (by omega))
  refine ok_iconst F dX2_meetSale_0 ?_
  refine ok_istore (lv' := [(4, pI 0), (0, pR 179), (1, pR 21), (2, pI fa), (3, pI q)]) F dX2_meetSale_1 (by decide) rfl ?_
  have hL_3 : ∀ (n_3 : Nat) (i : Int) (m : Mem), (0 ≤ i ∧ i ≤ mem 21 0 ∧ (∀ c, c ≠ 184 → m c = mem c) ∧ ∀ j : Nat, (j : Int) < i → m 184 j = stk f w s j) → (mem 21 0 - i).toNat = n_3 → Ok shp X 6 3 [(0, pR 179), (1, pR 21), (2, pI fa), (3, pI q), (4, pI i)] [] m := by
    intro n_3
    induction n_3 using Nat.strongRecOn with
    | _ n_3 ih_3 =>
      intro i m hI_3 hn_3
      obtain ⟨hi0, hi1, hF, hM⟩ := hI_3
      have h21 := hF 21 (by decide)
      refine ok_iload F dX2_meetSale_3 4 rfl ?_
      refine ok_aload_n F dX2_meetSale_5 1 rfl ?_
      refine ok_getf (v := mem 21 0) F dX2_meetSale_6 kF_X2_68 sh_21 rfl (by rw [h21] <;> rfl) ?_
      refine ok_icmp_ge F 42 dX2_meetSale_9 (by decide) (by omega) (by omega) (fun c_1 => ?_) (fun c_1 => ?_)
      · have hMN : ∀ j : Nat, (j : Int) < mem 21 0 → m 184 j = stk f w s j := fun j hj => hM j (by omega)
        have eam : sumN (fun k => m 31 ((fa + q).toNat * 8 + k) * m 22 k) (m 21 0).toNat - m 30 (fa + q).toNat = abvS f s := by
          unfold abvS
          rw [hF 30 (by decide), ← hs0, rp2, hF 21 (by decide), r0]
          congr 1
          refine sumN_congr (fun k hk => ?_)
          rw [hF 31 (by decide), hF 22 (by decide), show s * 8 + k = 8 * s + k by omega, rg2 k (by omega), e22 k (by omega)]
        have hCIm : CI m := hCI.congr (fun c c1 c2 c3 c4 => hF c c3)
        have efew : fewT (fun i => (m 22 i).toNat) (fun i => (m 184 i).toNat) (m 21 0).toNat (sumN (fun k => m 31 ((fa + q).toNat * 8 + k) * m 22 k) (m 21 0).toNat - m 30 (fa + q).toNat).toNat = fewS f w s := by
          rw [eam, hF 21 (by decide), r0]
          exact fewT_congr2 _ (fun i hi => ⟨by rw [hF 22 (by decide), e22 i (by omega)]; rfl, by rw [hMN i (by omega)]⟩)
        have etak : ∀ j, ((takR (fun i => (m 22 i).toNat) (fun i => (m 184 i).toNat) (m 21 0).toNat (sumN (fun k => m 31 ((fa + q).toNat * 8 + k) * m 22 k) (m 21 0).toNat - m 30 (fa + q).toNat).toNat j : Nat) : Int) = takS f w s j := fun j => by
          rw [eam, hF 21 (by decide), r0]
          unfold takS
          rw [takR_congr2 _ j (fun i hi => ⟨by rw [hF 22 (by decide), e22 i (by omega)], by rw [hMN i (by omega)]⟩)]
          rfl
        refine ok_aload_n F dX2_meetSale_42 0 rfl ?_
        refine ok_getr F dX2_meetSale_43 kF_X2_24 sh_179 rfl ?_
        refine ok_aload_n F dX2_meetSale_46 1 rfl ?_
        refine ok_aload_n F dX2_meetSale_47 0 rfl ?_
        refine ok_getr F dX2_meetSale_48 kF_X2_28 sh_179 rfl ?_
        refine ok_aload_n F dX2_meetSale_51 1 rfl ?_
        refine ok_iload_n F dX2_meetSale_52 2 rfl ?_
        refine ok_iload_n F dX2_meetSale_53 3 rfl ?_
        refine ok_iadd F dX2_meetSale_54 ?_
        refine ok_callv F [pI (fa + q)] dX2_meetSale_55 kM_X6_givenWorth kI_X6_givenWorth kV_X6_givenWorth kL_X2_75 (ci := 6) rfl sh_21 rfl (by decide) (Nat.le_of_ble_eq_true rfl) rfl (m_X6_givenWorth _ (fa + q) m (by omega) (by rw [hF 21 (by decide)]; exact hN)) ?_
        rintro _ _ ⟨rfl, rfl⟩
        refine ok_aload_n F dX2_meetSale_58 1 rfl ?_
        refine ok_iload_n F dX2_meetSale_59 2 rfl ?_
        refine ok_iload_n F dX2_meetSale_60 3 rfl ?_
        refine ok_iadd F dX2_meetSale_61 ?_
        refine ok_callv F [pI (fa + q)] dX2_meetSale_62 kM_X6_priceOf kI_X6_priceOf kV_X6_priceOf kL_X2_78 (ci := 6) rfl sh_21 rfl (by decide) (Nat.le_of_ble_eq_true rfl) rfl (m_X6_priceOf _ (fa + q) m (by omega)) ?_
        rintro _ _ ⟨rfl, rfl⟩
        refine ok_isub F dX2_meetSale_65 ?_
        refine ok_callv F [pR 21, pR 184, pI ((sumN (fun k => m 31 ((fa + q).toNat * 8 + k) * m 22 k) (m 21 0).toNat) - (m 30 (fa + q).toNat))] dX2_meetSale_66 kM_X0_take kI_X0_take kV_X0_take kL_X2_81 (ci := 0) rfl sh_183 rfl (by decide) (Nat.le_of_ble_eq_true rfl) rfl (m_X0_take _ 184 ((sumN (fun k => m 31 ((fa + q).toNat * 8 + k) * m 22 k) (m 21 0).toNat) - (m 30 (fa + q).toNat)) m (hCIm) (by rw [hF 21 (by decide)]; exact hN) (by rw [hF 22 (by decide)]; exact hV) (by rw [hF 21 (by decide), hF 22 (by decide)]; exact hV1) (by rw [eam]; exact gab) (sh_184) (by decide) (by rw [hF 21 (by decide)]; exact fun i hi => by rw [hMN i hi]; have := hsb i (by omega); omega)) ?_
        rintro _ m_3 ⟨z_2, rfl, r_4⟩
        obtain ⟨k1, k2, k3⟩ := id r_4
        rw [efew] at k3
        have k4 : (fewS f w s = 1000000 ∧ z_2 = -1) ∨ (fewS f w s < 1000000 ∧ z_2 = fewS f w s) := k3.imp id (fun q => ⟨q.1, q.2.1⟩)
        have k5 : fewS f w s < 1000000 → ∀ j : Nat, j < 8 → m_3 185 j = takS f w s j := fun h j hj => by rw [(k3.resolve_left (fun q => by omega)).2.2 j hj]; exact etak j
        obtain ⟨mT, hmT⟩ : ∃ x, x = m_3 := ⟨_, rfl⟩
        rw [← hmT] at k1 k2 k5
        have kb : 0 ≤ fewS f w s ∧ fewS f w s ≤ 1000000 := fewT_bd _ _ _ _
        have kF : ∀ c, c < 179 ∨ 206 < c ∨ c = 179 ∨ c = 180 ∨ c = 181 ∨ c = 182 → mT c = mem c := fun c hc => by rw [k1 c (by omega), hF c (by omega)]
        have k184 : ∀ j : Nat, (j : Int) < mem 21 0 → mT 184 j = stk f w s j := fun j hj => by rw [k1 184 (by decide)]; exact hMN j hj
        refine ok_istore (lv' := [(4, pI z_2), (0, pR 179), (1, pR 21), (2, pI fa), (3, pI q)]) F dX2_meetSale_69 (by decide) rfl ?_
        have hJ_84 : ∀  (m8 : Mem), ((∀ c, c < 179 ∨ 206 < c ∨ c = 179 ∨ c = 180 ∨ c = 181 → m8 c = mem c) ∧ CI m8 ∧ shortS f w s = true ∧ ∀ j : Nat, j < 8 → m8 182 j = spS f w s (mem 182) j) → Ok shp X 6 84 [(0, pR 179), (1, pR 21), (2, pI fa), (3, pI q)] [] m8 := by
          intro m8 hI_84
          obtain ⟨h8F, h8C, h8s, h8p⟩ := hI_84
          have h8179 := h8F 179 (by decide)
          refine ok_aload_n F dX2_meetSale_84 0 rfl ?_
          refine ok_aload_n F dX2_meetSale_85 0 rfl ?_
          refine ok_getf (v := mem 179 3) F dX2_meetSale_86 kF_X2_48 sh_179 rfl (by rw [h8179] <;> rfl) ?_
          refine ok_if_ne F 96 dX2_meetSale_89 (by decide) (by omega) (fun c_5 => ?_) (fun c_5 => ?_)
          · refine ok_aload_n F dX2_meetSale_96 0 rfl ?_
            refine ok_getf (v := mem 179 5) F dX2_meetSale_97 kF_X2_59 sh_179 rfl (by rw [h8179] <;> rfl) ?_
            refine ok_putf F dX2_meetSale_100 kF_X2_59 sh_179 rfl rfl rfl (fun m_6 e_7 => ?_)
            refine ok_aload_n F dX2_meetSale_103 0 rfl ?_
            refine ok_dup F dX2_meetSale_104 rfl ?_
            refine ok_getf (v := mem 179 3) F dX2_meetSale_105 kF_X2_48 sh_179 rfl (by rw [e_7, mset_ne (by decide), h8179] <;> rfl) ?_
            refine ok_iconst F dX2_meetSale_108 ?_
            refine ok_iadd F dX2_meetSale_109 ?_
            refine ok_putf F dX2_meetSale_110 kF_X2_48 sh_179 rfl rfl rfl (fun m_8 e_9 => ?_)
            refine ok_vret F G dX2_meetSale_113 ?_
            rw [← hs0]
            have eq9 : ∀ c, c ≠ 179 → m_8 c = m8 c := fun c hc => by rw [e_9, e_7, mset_nka hc, mset_nka hc]
            refine ⟨rfl, fun c hc => by rw [eq9 c (by omega)]; exact h8F c (by omega), h8C.congr (fun c c1 c2 c3 c4 => eq9 c (by omega)), ?_, fun j hj => by rw [eq9 182 (by decide)]; exact h8p j hj⟩
            have hro : ∀ j, rowS f w s j = w j := fun j => by unfold rowS; rw [if_pos h8s]
            have hgo : goneD (fun j => decide (rowS f w s j = 0) && decide (0 < w j)) nu (f 0).toNat gs gk = (gs, gk) := goneD_no (fun i hi => by rw [hro]; have := b4 i (by omega); by_cases z : w i = 0; (rw [decide_eq_true z, decide_eq_false (by omega)]; rfl); (rw [decide_eq_false z]; rfl))
            refine ⟨fun j hj => ?_, fun j hj => ?_, ?_, ?_, ?_, ?_, ?_⟩
            · show _ = rowS f w s j; rw [eq9 180 (by decide), h8F 180 (by decide), hro]; exact l1 j hj
            · show _ = if (j : Int) < f 0 then min (low j) (rowS f w s j) else low j
              rw [eq9 181 (by decide), h8F 181 (by decide), l2 j hj, hro]
              by_cases gj : (j : Int) < f 0
              · rw [if_pos gj]; have := b1n j gj; omega
              · rw [if_neg gj]
            · show _ = sh + (if shortS f w s = true then 1 else 0); rw [if_pos h8s, e_9, mset_eq]; first | (rw [mset_ne (by decide), h8179, l3]; done) | (rw [l3]) | omega
            · show _ = pc + pcsS f w s; unfold pcsS; rw [if_pos h8s, e_9, e_7, mset_ne (by decide), mset_ne (by decide), h8179, l4]; omega
            · show _ = if shortS f w s = true ∧ fs = -2 then nu else fs
              rw [e_9, e_7, mset_ne (by decide), mset_eq]
              first
                | (rw [if_pos ⟨h8s, by omega⟩]; exact hnum)
                | (rw [if_neg (fun z => by omega)]; omega)
            · show _ = (goneD _ nu (f 0).toNat gs gk).1; rw [hgo, e_9, e_7, mset_ne (by decide), mset_ne (by decide), h8179, l6]
            · show _ = (goneD _ nu (f 0).toNat gs gk).2; rw [hgo, e_9, e_7, mset_ne (by decide), mset_ne (by decide), h8179, l7]
          · refine ok_iload_n F dX2_meetSale_92 3 rfl ?_
            refine ok_goto F 100 dX2_meetSale_93 (by decide) ?_
            refine ok_putf F dX2_meetSale_100 kF_X2_59 sh_179 rfl rfl rfl (fun m_10 e_11 => ?_)
            refine ok_aload_n F dX2_meetSale_103 0 rfl ?_
            refine ok_dup F dX2_meetSale_104 rfl ?_
            refine ok_getf (v := mem 179 3) F dX2_meetSale_105 kF_X2_48 sh_179 rfl (by rw [e_11, mset_ne (by decide), h8179] <;> rfl) ?_
            refine ok_iconst F dX2_meetSale_108 ?_
            refine ok_iadd F dX2_meetSale_109 ?_
            refine ok_putf F dX2_meetSale_110 kF_X2_48 sh_179 rfl rfl rfl (fun m_12 e_13 => ?_)
            refine ok_vret F G dX2_meetSale_113 ?_
            rw [← hs0]
            have eq9 : ∀ c, c ≠ 179 → m_12 c = m8 c := fun c hc => by rw [e_13, e_11, mset_nka hc, mset_nka hc]
            refine ⟨rfl, fun c hc => by rw [eq9 c (by omega)]; exact h8F c (by omega), h8C.congr (fun c c1 c2 c3 c4 => eq9 c (by omega)), ?_, fun j hj => by rw [eq9 182 (by decide)]; exact h8p j hj⟩
            have hro : ∀ j, rowS f w s j = w j := fun j => by unfold rowS; rw [if_pos h8s]
            have hgo : goneD (fun j => decide (rowS f w s j = 0) && decide (0 < w j)) nu (f 0).toNat gs gk = (gs, gk) := goneD_no (fun i hi => by rw [hro]; have := b4 i (by omega); by_cases z : w i = 0; (rw [decide_eq_true z, decide_eq_false (by omega)]; rfl); (rw [decide_eq_false z]; rfl))
            refine ⟨fun j hj => ?_, fun j hj => ?_, ?_, ?_, ?_, ?_, ?_⟩
            · show _ = rowS f w s j; rw [eq9 180 (by decide), h8F 180 (by decide), hro]; exact l1 j hj
            · show _ = if (j : Int) < f 0 then min (low j) (rowS f w s j) else low j
              rw [eq9 181 (by decide), h8F 181 (by decide), l2 j hj, hro]
              by_cases gj : (j : Int) < f 0
              · rw [if_pos gj]; have := b1n j gj; omega
              · rw [if_neg gj]
            · show _ = sh + (if shortS f w s = true then 1 else 0); rw [if_pos h8s, e_13, mset_eq]; first | (rw [mset_ne (by decide), h8179, l3]; done) | (rw [l3]) | omega
            · show _ = pc + pcsS f w s; unfold pcsS; rw [if_pos h8s, e_13, e_11, mset_ne (by decide), mset_ne (by decide), h8179, l4]; omega
            · show _ = if shortS f w s = true ∧ fs = -2 then nu else fs
              rw [e_13, e_11, mset_ne (by decide), mset_eq]
              first
                | (rw [if_pos ⟨h8s, by omega⟩]; exact hnum)
                | (rw [if_neg (fun z => by omega)]; omega)
            · show _ = (goneD _ nu (f 0).toNat gs gk).1; rw [hgo, e_13, e_11, mset_ne (by decide), mset_ne (by decide), h8179, l6]
            · show _ = (goneD _ nu (f 0).toNat gs gk).2; rw [hgo, e_13, e_11, mset_ne (by decide), mset_ne (by decide), h8179, l7]
        refine ok_iload F dX2_meetSale_71 0 rfl ?_
        refine ok_if_lt F 84 dX2_meetSale_73 (by decide) (by omega) (fun c_14 => ?_) (fun c_14 => ?_)
        · refine ok_lvp [1, 2, 3, 4] (lv' := [(0, pR 179), (1, pR 21), (2, pI fa), (3, pI q)]) rfl ?_
          refine hJ_84 m_3 ?_
          first
            | (rw [← hmU]; refine ⟨fun c hc => by rw [v1 c (by omega) (by omega)]; exact kF c (by omega), vC, ?_, v182⟩; unfold shortS; rw [(full_any f w s).1.mp (by omega)]; exact Bool.or_true _)
            | (rw [← hmT]; refine ⟨fun c hc => kF c (by omega), k2, ?_, fun j hj => by rw [kF 182 (by decide)]; unfold spS; rw [if_pos (by omega)]⟩; unfold shortS; rw [decide_eq_true (by omega)]; rfl)
        · refine ok_aload_n F dX2_meetSale_76 1 rfl ?_
          refine ok_aload_n F dX2_meetSale_77 2 rfl ?_
          refine ok_callv F [pR 21] dX2_meetSale_78 kM_X2_takesTooMuch kI_X2_takesTooMuch kV_X2_takesTooMuch kL_X2_85 (ci := 2) rfl sh_179 rfl (by decide) (Nat.le_of_ble_eq_true rfl) rfl (m_X2_takesTooMuch _ m_3 (by rw [← hmT, kF 21 (by decide)]; exact hN) (by rw [← hmT, kF 21 (by decide)]; exact fun j hj => by rw [k184 j hj]; have := hsb j (by omega); omega) (by rw [← hmT, kF 21 (by decide)]; exact fun j hj => by rw [k5 (by omega) j (by omega)]; have := hsb j (by omega); have := takS_le (w := w) (s := s) (k := j) g0.1 (by omega) (by omega) this.1; omega) (by rw [← hmT, kF 21 (by decide), kF 182 (by decide)]; exact fun j hj => by have := hsp j (by omega); omega)) ?_
          rintro _ m_16 ⟨z_15, rfl, r_17⟩
          obtain ⟨v1, v2, v3, v4⟩ := id r_17
          obtain ⟨mU, hmU⟩ : ∃ x, x = m_16 := ⟨_, rfl⟩
          rw [← hmU] at v1 v2 v3
          rw [← hmT] at v1 v2 v3 v4
          rw [kF 21 (by decide)] at v2 v3 v4
          have eFU : sumN (fun i => if 100 ≤ mT 184 i - mT 185 i then 1 else 0) (mem 21 0).toNat = fullS f w s := by
            unfold fullS
            rw [r0]
            exact sumN_congr (fun j hj => by rw [k184 j (by omega), k5 (by omega) j (by omega)]; rfl)
          rw [eFU] at v3 v4
          have v184 : ∀ j : Nat, (j : Int) < mem 21 0 → mU 184 j = behS f w s j := fun j hj => by rw [v2, if_pos hj, k184 j hj, k5 (by omega) j (by omega)]; rfl
          have v182 : ∀ j : Nat, j < 8 → mU 182 j = spS f w s (mem 182) j := fun j hj => by
            have hne : ¬ fewS f w s = 1000000 := by omega
            rw [v3]
            unfold spS
            rw [if_neg hne]
            by_cases g : (j : Int) < mem 21 0
            · rw [if_pos g, if_pos (by omega : (j : Int) < f 0), k184 j g, k5 (by omega) j hj, kF 182 (by decide)]; rfl
            · rw [if_neg g, if_neg (by omega : ¬ (j : Int) < f 0), kF 182 (by decide)]
          have v179 : mU 179 = mem 179 := by rw [v1 179 (by decide) (by decide)]; exact kF 179 (by decide)
          have v180 : mU 180 = mem 180 := by rw [v1 180 (by decide) (by decide)]; exact kF 180 (by decide)
          have v181 : mU 181 = mem 181 := by rw [v1 181 (by decide) (by decide)]; exact kF 181 (by decide)
          have vC : CI mU := k2.congr (fun c c1 c2 c3 c4 => v1 c (by omega) (by omega))
          have vF : ∀ c, c < 179 ∨ 206 < c → mU c = mem c := fun c hc => by rw [v1 c (by omega) (by omega)]; exact kF c (by omega)
          refine ok_if_eq F 114 dX2_meetSale_81 (by decide) (by omega) (fun c_18 => ?_) (fun c_18 => ?_)
          · have hfull0 : ¬ 0 < fullS f w s := by omega
            have hshort : shortS f w s = false := by
              unfold shortS
              rw [decide_eq_false (by omega), Bool.false_or]
              cases ha : anyN (overS f w s) (f 0).toNat
              · rfl
              · exact absurd ((full_any f w s).1.mpr ha) hfull0
            have hrow : ∀ j : Nat, (j : Int) < mem 21 0 → rowS f w s j = behS f w s j := fun j hj => by unfold rowS; rw [if_neg (by rw [hshort]; decide), if_pos (by omega)]; rfl
            refine ok_aload_n F dX2_meetSale_114 1 rfl ?_
            refine ok_dup F dX2_meetSale_115 rfl ?_
            refine ok_getf (v := m_16 179 4) F dX2_meetSale_116 kF_X2_56 sh_179 rfl rfl ?_
            refine ok_iload F dX2_meetSale_119 0 rfl ?_
            refine ok_iadd F dX2_meetSale_121 ?_
            refine ok_putf F dX2_meetSale_122 kF_X2_56 sh_179 rfl rfl rfl (fun m_19 e_20 => ?_)
            refine ok_aload_n F dX2_meetSale_125 2 rfl ?_
            refine ok_getf (v := mem 21 0) F dX2_meetSale_126 kF_X2_68 sh_21 rfl (by rw [e_20, mset_nk (by decide), (r_17.1 21 (by decide) (by decide)), (r_4.1 21 (by decide)), h21] <;> rfl) ?_
            refine ok_iconst F dX2_meetSale_129 ?_
            refine ok_isub F dX2_meetSale_130 ?_
            refine ok_istore (lv' := [(5, pI ((mem 21 0) - 1)), (4, pI z_2), (0, pR 179), (1, pR 21), (2, pI fa), (3, pI q)]) F dX2_meetSale_131 (by decide) rfl ?_
            obtain ⟨mW, hmW⟩ : ∃ x, x = m_19 := ⟨_, rfl⟩
            have eW : ∀ c, c ≠ 179 → mW c = mU c := fun c hc => by rw [hmW, e_20, ← hmU]; exact mset_nka hc
            have eW4 : mW 179 4 = pc + fewS f w s := by rw [hmW, e_20, ← hmU, mset_eq, v179, l4]; omega
            have eWj : ∀ j, j ≠ 4 → mW 179 j = mem 179 j := fun j hj => by rw [hmW, e_20, ← hmU, mset_ne (fun z => hj z.2), v179]
            have hL_133 : ∀ (n_133 : Nat) (i : Int) (m7 : Mem), (-1 ≤ i ∧ i < mem 21 0 ∧ (∀ c, c ≠ 179 → c ≠ 180 → c ≠ 181 → m7 c = mU c) ∧ (∀ j, j ≠ 6 → j ≠ 7 → m7 179 j = mW 179 j) ∧ (∀ j : Nat, m7 180 j = if i < j ∧ (j : Int) < mem 21 0 then behS f w s j else mem 180 j) ∧ (∀ j : Nat, m7 181 j = if i < j ∧ (j : Int) < mem 21 0 then min (mem 181 j) (behS f w s j) else mem 181 j) ∧ goneD (fun j => decide (rowS f w s j = 0) && decide (0 < w j)) nu (f 0).toNat gs gk = goneD (fun j => decide (rowS f w s j = 0) && decide (0 < w j)) nu (i + 1).toNat (m7 179 6) (m7 179 7) ∧ (m7 179 6 = -2 ∨ 0 ≤ m7 179 6 ∧ m7 179 6 ≤ 40)) → (i + 1).toNat = n_133 → Ok shp X 6 133 [(0, pR 179), (1, pR 21), (2, pI fa), (3, pI q), (4, pI z_2), (5, pI i)] [] m7 := by
              intro n_133
              induction n_133 using Nat.strongRecOn with
              | _ n_133 ih_133 =>
                intro i m7 hI_133 hn_133
                obtain ⟨hi0, hi1, h7F, h7j, h7a, h7b, h7g, h7s⟩ := hI_133
                refine ok_iload F dX2_meetSale_133 5 rfl ?_
                refine ok_if_lt F 228 dX2_meetSale_135 (by decide) (by omega) (fun c_21 => ?_) (fun c_21 => ?_)
                · refine ok_vret F G dX2_meetSale_228 ?_
                  rw [← hs0]
                  have ei : i = -1 := by omega
                  subst ei
                  have h7g2 : goneD (fun j => decide (rowS f w s j = 0) && decide (0 < w j)) nu (f 0).toNat gs gk = (m7 179 6, m7 179 7) := h7g
                  have hro : ∀ j, ¬ (j : Nat) < (f 0).toNat → rowS f w s j = w j := fun j hj => by unfold rowS; rw [if_neg (by rw [hshort]; decide), if_neg (by omega)]
                  refine ⟨rfl, fun c hc => by rw [h7F c (by omega) (by omega) (by omega)]; exact vF c hc, vC.congr (fun c c1 c2 c3 c4 => h7F c (by omega) (by omega) (by omega)), ?_, fun j hj => by rw [h7F 182 (by decide) (by decide) (by decide)]; exact v182 j hj⟩
                  refine ⟨fun j hj => ?_, fun j hj => ?_, ?_, ?_, ?_, ?_, ?_⟩
                  · show _ = rowS f w s j
                    rw [h7a]
                    by_cases g : (j : Int) < mem 21 0
                    · rw [if_pos (by omega), hrow j g]
                    · rw [if_neg (by omega), hro j (by omega)]; exact l1 j hj
                  · show _ = if (j : Int) < f 0 then min (low j) (rowS f w s j) else low j
                    rw [h7b, l2 j hj]
                    by_cases g : (j : Int) < mem 21 0
                    · rw [if_pos (by omega), if_pos (by omega : (j : Int) < f 0), hrow j g]
                    · rw [if_neg (by omega), if_neg (by omega : ¬ (j : Int) < f 0)]
                  · show _ = sh + (if shortS f w s = true then 1 else 0); rw [if_neg (by rw [hshort]; decide), h7j 3 (by decide) (by decide), eWj 3 (by decide), l3]; omega
                  · show _ = pc + pcsS f w s; unfold pcsS; rw [if_neg (by rw [hshort]; decide), h7j 4 (by decide) (by decide), eW4]
                  · show _ = if shortS f w s = true ∧ fs = -2 then nu else fs; rw [if_neg (by rw [hshort]; simp), h7j 5 (by decide) (by decide), eWj 5 (by decide), l5]
                  · show _ = (goneD _ nu (f 0).toNat gs gk).1; rw [h7g2]
                  · show _ = (goneD _ nu (f 0).toNat gs gk).2; rw [h7g2]
                · have eS : m7 184 i.toNat = behS f w s i.toNat := by rw [h7F 184 (by decide) (by decide) (by decide)]; exact v184 _ (by omega)
                  have eT : m7 180 i.toNat = w i.toNat := by rw [h7a, if_neg (by omega)]; exact l1 _ (by omega)
                  have eLi : m7 181 i.toNat = mem 181 i.toNat := by rw [h7b, if_neg (by omega)]
                  have eLw := l2 i.toNat (by omega)
                  have bw := b4 i.toNat (by omega)
                  have bl := b5 i.toNat (by omega)
                  have bs := hsb i.toNat (by omega)
                  have bt := takS_le (w := w) (s := s) (k := i.toNat) g0.1 (by omega) (by omega) bs.1
                  have ebS : behS f w s i.toNat = stk f w s i.toNat - takS f w s i.toNat := rfl
                  refine ok_aload_n F dX2_meetSale_138 0 rfl ?_
                  refine ok_getr F dX2_meetSale_139 kF_X2_9 sh_179 rfl ?_
                  refine ok_iload F dX2_meetSale_142 5 rfl ?_
                  refine ok_iald (v := m7 180 i.toNat) F dX2_meetSale_144 sh_180 (by first | decide | assumption) (by omega) (by omega) rfl ?_
                  refine ok_if_le F 184 dX2_meetSale_145 (by decide) (by omega) (fun c_22 => ?_) (fun c_22 => ?_)
                  · refine ok_aload_n F dX2_meetSale_184 0 rfl ?_
                    refine ok_getr F dX2_meetSale_185 kF_X2_9 sh_179 rfl ?_
                    refine ok_iload F dX2_meetSale_188 5 rfl ?_
                    refine ok_aload_n F dX2_meetSale_190 0 rfl ?_
                    refine ok_getr F dX2_meetSale_191 kF_X2_28 sh_179 rfl ?_
                    refine ok_iload F dX2_meetSale_194 5 rfl ?_
                    refine ok_iald (v := m7 184 i.toNat) F dX2_meetSale_196 sh_184 (by first | decide | assumption) (by omega) (by omega) rfl ?_
                    refine ok_iast F dX2_meetSale_197 sh_180 (by first | decide | assumption) (by omega) (by omega) (fun m_23 e_24 => ?_)
                    refine ok_aload_n F dX2_meetSale_198 0 rfl ?_
                    refine ok_getr F dX2_meetSale_199 kF_X2_15 sh_179 rfl ?_
                    refine ok_iload F dX2_meetSale_202 5 rfl ?_
                    refine ok_aload_n F dX2_meetSale_204 0 rfl ?_
                    refine ok_getr F dX2_meetSale_205 kF_X2_15 sh_179 rfl ?_
                    refine ok_iload F dX2_meetSale_208 5 rfl ?_
                    refine ok_iald (v := m7 181 i.toNat) F dX2_meetSale_210 sh_181 (by first | decide | assumption) (by omega) (by omega) (by rw [e_24, mset_nk (by decide)] <;> rfl) ?_
                    refine ok_aload_n F dX2_meetSale_211 0 rfl ?_
                    refine ok_getr F dX2_meetSale_212 kF_X2_9 sh_179 rfl ?_
                    refine ok_iload F dX2_meetSale_215 5 rfl ?_
                    refine ok_iald (v := (m7 184 i.toNat)) F dX2_meetSale_217 sh_180 (by first | decide | assumption) (by omega) (by omega) (by rw [e_24]; exact mset_eq _ _ _ _) ?_
                    refine ok_mmin F dX2_meetSale_218 kL_X2_89 kS_J9_min_7cf53 kM_J9_min_7cf53.2.1 kM_J9_min_7cf53.2.2.1 (by omega) (by omega) (by decide) (Nat.le_of_ble_eq_true rfl) ?_
                    refine ok_iast F dX2_meetSale_221 sh_181 (by first | decide | assumption) (by omega) (by omega) (fun m_25 e_26 => ?_)
                    refine ok_iinc (lv' := [(5, pI (i + (-1))), (0, pR 179), (1, pR 21), (2, pI fa), (3, pI q), (4, pI z_2)]) F dX2_meetSale_222 5 rfl (by decide) rfl ?_
                    refine ok_goto F 133 dX2_meetSale_225 (by decide) ?_
                    refine ok_lvp [1, 2, 3, 4, 5, 0] (lv' := [(0, pR 179), (1, pR 21), (2, pI fa), (3, pI q), (4, pI z_2), (5, pI (i + (-1)))]) rfl ?_
                    refine ih_133 _ ?_ (i + (-1)) m_25 ?_ rfl
                    · omega
                    · have ek : (i + 1).toNat = i.toNat + 1 := by omega
                      have ei : (i + -1 + 1).toNat = i.toNat := by omega
                      rw [ek] at h7g
                      have egs : goneD (fun j => decide (rowS f w s j = 0) && decide (0 < w j)) nu (i.toNat + 1) (m7 179 6) (m7 179 7) = if (fun j => decide (rowS f w s j = 0) && decide (0 < w j)) i.toNat = true ∧ (m7 179 6 = -2 ∨ m7 179 6 = nu) then goneD (fun j => decide (rowS f w s j = 0) && decide (0 < w j)) nu i.toNat nu (i.toNat : Nat) else goneD (fun j => decide (rowS f w s j = 0) && decide (0 < w j)) nu i.toNat (m7 179 6) (m7 179 7) := rfl
                      rw [egs] at h7g
                      have hGi : (fun j => decide (rowS f w s j = 0) && decide (0 < w j)) i.toNat = true ↔ behS f w s i.toNat = 0 ∧ 0 < w i.toNat := by rw [Bool.and_eq_true, decide_eq_true_eq, decide_eq_true_eq, hrow i.toNat (by omega)]
                      refine ⟨by omega, by omega, fun c c1 c2 c3 => by rw [e_26, e_24]; simp only [mset_nka c1, mset_nka c2, mset_nka c3]; exact h7F c c1 c2 c3, fun j j6 j7 => ?_, fun j => ?_, fun j => ?_, ?_, ?_⟩
                      · rw [e_26, e_24]; simp only [mset, h7j j j6 j7]; simp [j6, j7, h7j j j6 j7]
                      · rw [e_26, e_24, mset_nk (by decide)]; by_cases e : j = i.toNat
                        · subst e; rw [mset_eq, if_pos (by omega)]; first | exact eS | (rw [mset_nk (by decide), mset_nk (by decide)]; exact eS)
                        · rw [mset_ne (fun z => e z.2)]; first | (rw [h7a]) | (rw [mset_nk (by decide), mset_nk (by decide), h7a])
                          by_cases g : i < j ∧ (j : Int) < mem 21 0
                          · rw [if_pos g, if_pos (by omega)]
                          · rw [if_neg g, if_neg (by omega)]
                      · rw [e_26]; by_cases e : j = i.toNat
                        · subst e; rw [mset_eq, if_pos (by omega)]; congr 1 <;> simp [mset, eS, eLi]
                        · rw [mset_ne (fun z => e z.2)]; have e0 : m7 181 j = if i < j ∧ (j : Int) < mem 21 0 then min (mem 181 j) (behS f w s j) else mem 181 j := h7b j
                          have e1 : ∀ mm : Mem, mm 181 j = m7 181 j → mm 181 j = if i + -1 < j ∧ (j : Int) < mem 21 0 then min (mem 181 j) (behS f w s j) else mem 181 j := fun mm hmm => by
                            rw [hmm, e0]
                            by_cases g : i < j ∧ (j : Int) < mem 21 0
                            · rw [if_pos g, if_pos (by omega)]
                            · rw [if_neg g, if_neg (by omega)]
                          refine e1 _ ?_
                          subst_vars; simp [mset]
                      · rw [ei, h7g]
                        first
                          | (have x6 : m_25 179 6 = q := by rw [e_26, e_24]; simp [mset]
                             have x7 : m_25 179 7 = i := by rw [e_26, e_24]; simp [mset]
                             rw [if_pos ⟨hGi.mpr ⟨by omega, by omega⟩, by omega⟩, x6, x7, hnum, show ((i.toNat : Nat) : Int) = i by omega])
                          | (have x6 : m_25 179 6 = m7 179 6 := by rw [e_26, e_24]; simp [mset]
                             have x7 : m_25 179 7 = m7 179 7 := by rw [e_26, e_24]; simp [mset]
                             rw [if_neg (fun z => by have z1 := hGi.mp z.1; have z2 := z.2; omega), x6, x7])
                      · first
                        | (have x6 : m_25 179 6 = q := by rw [e_26, e_24]; simp [mset]
                           rw [x6]; right; omega)
                        | (have x6 : m_25 179 6 = m7 179 6 := by rw [e_26, e_24]; simp [mset]
                           rw [x6]; exact h7s)
                  · refine ok_aload_n F dX2_meetSale_148 0 rfl ?_
                    refine ok_getr F dX2_meetSale_149 kF_X2_28 sh_179 rfl ?_
                    refine ok_iload F dX2_meetSale_152 5 rfl ?_
                    refine ok_iald (v := m7 184 i.toNat) F dX2_meetSale_154 sh_184 (by first | decide | assumption) (by omega) (by omega) rfl ?_
                    refine ok_if_ne F 184 dX2_meetSale_155 (by decide) (by omega) (fun c_27 => ?_) (fun c_27 => ?_)
                    · refine ok_aload_n F dX2_meetSale_184 0 rfl ?_
                      refine ok_getr F dX2_meetSale_185 kF_X2_9 sh_179 rfl ?_
                      refine ok_iload F dX2_meetSale_188 5 rfl ?_
                      refine ok_aload_n F dX2_meetSale_190 0 rfl ?_
                      refine ok_getr F dX2_meetSale_191 kF_X2_28 sh_179 rfl ?_
                      refine ok_iload F dX2_meetSale_194 5 rfl ?_
                      refine ok_iald (v := m7 184 i.toNat) F dX2_meetSale_196 sh_184 (by first | decide | assumption) (by omega) (by omega) rfl ?_
                      refine ok_iast F dX2_meetSale_197 sh_180 (by first | decide | assumption) (by omega) (by omega) (fun m_28 e_29 => ?_)
                      refine ok_aload_n F dX2_meetSale_198 0 rfl ?_
                      refine ok_getr F dX2_meetSale_199 kF_X2_15 sh_179 rfl ?_
                      refine ok_iload F dX2_meetSale_202 5 rfl ?_
                      refine ok_aload_n F dX2_meetSale_204 0 rfl ?_
                      refine ok_getr F dX2_meetSale_205 kF_X2_15 sh_179 rfl ?_
                      refine ok_iload F dX2_meetSale_208 5 rfl ?_
                      refine ok_iald (v := m7 181 i.toNat) F dX2_meetSale_210 sh_181 (by first | decide | assumption) (by omega) (by omega) (by rw [e_29, mset_nk (by decide)] <;> rfl) ?_
                      refine ok_aload_n F dX2_meetSale_211 0 rfl ?_
                      refine ok_getr F dX2_meetSale_212 kF_X2_9 sh_179 rfl ?_
                      refine ok_iload F dX2_meetSale_215 5 rfl ?_
                      refine ok_iald (v := (m7 184 i.toNat)) F dX2_meetSale_217 sh_180 (by first | decide | assumption) (by omega) (by omega) (by rw [e_29]; exact mset_eq _ _ _ _) ?_
                      refine ok_mmin F dX2_meetSale_218 kL_X2_89 kS_J9_min_7cf53 kM_J9_min_7cf53.2.1 kM_J9_min_7cf53.2.2.1 (by omega) (by omega) (by decide) (Nat.le_of_ble_eq_true rfl) ?_
                      refine ok_iast F dX2_meetSale_221 sh_181 (by first | decide | assumption) (by omega) (by omega) (fun m_30 e_31 => ?_)
                      refine ok_iinc (lv' := [(5, pI (i + (-1))), (0, pR 179), (1, pR 21), (2, pI fa), (3, pI q), (4, pI z_2)]) F dX2_meetSale_222 5 rfl (by decide) rfl ?_
                      refine ok_goto F 133 dX2_meetSale_225 (by decide) ?_
                      refine ok_lvp [1, 2, 3, 4, 5, 0] (lv' := [(0, pR 179), (1, pR 21), (2, pI fa), (3, pI q), (4, pI z_2), (5, pI (i + (-1)))]) rfl ?_
                      refine ih_133 _ ?_ (i + (-1)) m_30 ?_ rfl
                      · omega
                      · have ek : (i + 1).toNat = i.toNat + 1 := by omega
                        have ei : (i + -1 + 1).toNat = i.toNat := by omega
                        rw [ek] at h7g
                        have egs : goneD (fun j => decide (rowS f w s j = 0) && decide (0 < w j)) nu (i.toNat + 1) (m7 179 6) (m7 179 7) = if (fun j => decide (rowS f w s j = 0) && decide (0 < w j)) i.toNat = true ∧ (m7 179 6 = -2 ∨ m7 179 6 = nu) then goneD (fun j => decide (rowS f w s j = 0) && decide (0 < w j)) nu i.toNat nu (i.toNat : Nat) else goneD (fun j => decide (rowS f w s j = 0) && decide (0 < w j)) nu i.toNat (m7 179 6) (m7 179 7) := rfl
                        rw [egs] at h7g
                        have hGi : (fun j => decide (rowS f w s j = 0) && decide (0 < w j)) i.toNat = true ↔ behS f w s i.toNat = 0 ∧ 0 < w i.toNat := by rw [Bool.and_eq_true, decide_eq_true_eq, decide_eq_true_eq, hrow i.toNat (by omega)]
                        refine ⟨by omega, by omega, fun c c1 c2 c3 => by rw [e_31, e_29]; simp only [mset_nka c1, mset_nka c2, mset_nka c3]; exact h7F c c1 c2 c3, fun j j6 j7 => ?_, fun j => ?_, fun j => ?_, ?_, ?_⟩
                        · rw [e_31, e_29]; simp only [mset, h7j j j6 j7]; simp [j6, j7, h7j j j6 j7]
                        · rw [e_31, e_29, mset_nk (by decide)]; by_cases e : j = i.toNat
                          · subst e; rw [mset_eq, if_pos (by omega)]; first | exact eS | (rw [mset_nk (by decide), mset_nk (by decide)]; exact eS)
                          · rw [mset_ne (fun z => e z.2)]; first | (rw [h7a]) | (rw [mset_nk (by decide), mset_nk (by decide), h7a])
                            by_cases g : i < j ∧ (j : Int) < mem 21 0
                            · rw [if_pos g, if_pos (by omega)]
                            · rw [if_neg g, if_neg (by omega)]
                        · rw [e_31]; by_cases e : j = i.toNat
                          · subst e; rw [mset_eq, if_pos (by omega)]; congr 1 <;> simp [mset, eS, eLi]
                          · rw [mset_ne (fun z => e z.2)]; have e0 : m7 181 j = if i < j ∧ (j : Int) < mem 21 0 then min (mem 181 j) (behS f w s j) else mem 181 j := h7b j
                            have e1 : ∀ mm : Mem, mm 181 j = m7 181 j → mm 181 j = if i + -1 < j ∧ (j : Int) < mem 21 0 then min (mem 181 j) (behS f w s j) else mem 181 j := fun mm hmm => by
                              rw [hmm, e0]
                              by_cases g : i < j ∧ (j : Int) < mem 21 0
                              · rw [if_pos g, if_pos (by omega)]
                              · rw [if_neg g, if_neg (by omega)]
                            refine e1 _ ?_
                            subst_vars; simp [mset]
                        · rw [ei, h7g]
                          first
                            | (have x6 : m_30 179 6 = q := by rw [e_31, e_29]; simp [mset]
                               have x7 : m_30 179 7 = i := by rw [e_31, e_29]; simp [mset]
                               rw [if_pos ⟨hGi.mpr ⟨by omega, by omega⟩, by omega⟩, x6, x7, hnum, show ((i.toNat : Nat) : Int) = i by omega])
                            | (have x6 : m_30 179 6 = m7 179 6 := by rw [e_31, e_29]; simp [mset]
                               have x7 : m_30 179 7 = m7 179 7 := by rw [e_31, e_29]; simp [mset]
                               rw [if_neg (fun z => by have z1 := hGi.mp z.1; have z2 := z.2; omega), x6, x7])
                        · first
                          | (have x6 : m_30 179 6 = q := by rw [e_31, e_29]; simp [mset]
                             rw [x6]; right; omega)
                          | (have x6 : m_30 179 6 = m7 179 6 := by rw [e_31, e_29]; simp [mset]
                             rw [x6]; exact h7s)
                    · refine ok_aload_n F dX2_meetSale_158 0 rfl ?_
                      refine ok_getf (v := m7 179 6) F dX2_meetSale_159 kF_X2_62 sh_179 rfl rfl ?_
                      refine ok_if_lt F 173 dX2_meetSale_162 (by decide) (by omega) (fun c_32 => ?_) (fun c_32 => ?_)
                      · refine ok_aload_n F dX2_meetSale_173 0 rfl ?_
                        refine ok_iload_n F dX2_meetSale_174 3 rfl ?_
                        refine ok_putf F dX2_meetSale_175 kF_X2_62 sh_179 rfl rfl rfl (fun m_33 e_34 => ?_)
                        refine ok_aload_n F dX2_meetSale_178 0 rfl ?_
                        refine ok_iload F dX2_meetSale_179 5 rfl ?_
                        refine ok_putf F dX2_meetSale_181 kF_X2_65 sh_179 rfl rfl rfl (fun m_35 e_36 => ?_)
                        refine ok_aload_n F dX2_meetSale_184 0 rfl ?_
                        refine ok_getr F dX2_meetSale_185 kF_X2_9 sh_179 rfl ?_
                        refine ok_iload F dX2_meetSale_188 5 rfl ?_
                        refine ok_aload_n F dX2_meetSale_190 0 rfl ?_
                        refine ok_getr F dX2_meetSale_191 kF_X2_28 sh_179 rfl ?_
                        refine ok_iload F dX2_meetSale_194 5 rfl ?_
                        refine ok_iald (v := m7 184 i.toNat) F dX2_meetSale_196 sh_184 (by first | decide | assumption) (by omega) (by omega) (by rw [e_36, mset_nk (by decide), e_34, mset_nk (by decide)] <;> rfl) ?_
                        refine ok_iast F dX2_meetSale_197 sh_180 (by first | decide | assumption) (by omega) (by omega) (fun m_37 e_38 => ?_)
                        refine ok_aload_n F dX2_meetSale_198 0 rfl ?_
                        refine ok_getr F dX2_meetSale_199 kF_X2_15 sh_179 rfl ?_
                        refine ok_iload F dX2_meetSale_202 5 rfl ?_
                        refine ok_aload_n F dX2_meetSale_204 0 rfl ?_
                        refine ok_getr F dX2_meetSale_205 kF_X2_15 sh_179 rfl ?_
                        refine ok_iload F dX2_meetSale_208 5 rfl ?_
                        refine ok_iald (v := m7 181 i.toNat) F dX2_meetSale_210 sh_181 (by first | decide | assumption) (by omega) (by omega) (by rw [e_38, mset_nk (by decide), e_36, mset_nk (by decide), e_34, mset_nk (by decide)] <;> rfl) ?_
                        refine ok_aload_n F dX2_meetSale_211 0 rfl ?_
                        refine ok_getr F dX2_meetSale_212 kF_X2_9 sh_179 rfl ?_
                        refine ok_iload F dX2_meetSale_215 5 rfl ?_
                        refine ok_iald (v := (m7 184 i.toNat)) F dX2_meetSale_217 sh_180 (by first | decide | assumption) (by omega) (by omega) (by rw [e_38]; exact mset_eq _ _ _ _) ?_
                        refine ok_mmin F dX2_meetSale_218 kL_X2_89 kS_J9_min_7cf53 kM_J9_min_7cf53.2.1 kM_J9_min_7cf53.2.2.1 (by omega) (by omega) (by decide) (Nat.le_of_ble_eq_true rfl) ?_
                        refine ok_iast F dX2_meetSale_221 sh_181 (by first | decide | assumption) (by omega) (by omega) (fun m_39 e_40 => ?_)
                        refine ok_iinc (lv' := [(5, pI (i + (-1))), (0, pR 179), (1, pR 21), (2, pI fa), (3, pI q), (4, pI z_2)]) F dX2_meetSale_222 5 rfl (by decide) rfl ?_
                        refine ok_goto F 133 dX2_meetSale_225 (by decide) ?_
                        refine ok_lvp [1, 2, 3, 4, 5, 0] (lv' := [(0, pR 179), (1, pR 21), (2, pI fa), (3, pI q), (4, pI z_2), (5, pI (i + (-1)))]) rfl ?_
                        refine ih_133 _ ?_ (i + (-1)) m_39 ?_ rfl
                        · omega
                        · have ek : (i + 1).toNat = i.toNat + 1 := by omega
                          have ei : (i + -1 + 1).toNat = i.toNat := by omega
                          rw [ek] at h7g
                          have egs : goneD (fun j => decide (rowS f w s j = 0) && decide (0 < w j)) nu (i.toNat + 1) (m7 179 6) (m7 179 7) = if (fun j => decide (rowS f w s j = 0) && decide (0 < w j)) i.toNat = true ∧ (m7 179 6 = -2 ∨ m7 179 6 = nu) then goneD (fun j => decide (rowS f w s j = 0) && decide (0 < w j)) nu i.toNat nu (i.toNat : Nat) else goneD (fun j => decide (rowS f w s j = 0) && decide (0 < w j)) nu i.toNat (m7 179 6) (m7 179 7) := rfl
                          rw [egs] at h7g
                          have hGi : (fun j => decide (rowS f w s j = 0) && decide (0 < w j)) i.toNat = true ↔ behS f w s i.toNat = 0 ∧ 0 < w i.toNat := by rw [Bool.and_eq_true, decide_eq_true_eq, decide_eq_true_eq, hrow i.toNat (by omega)]
                          refine ⟨by omega, by omega, fun c c1 c2 c3 => by rw [e_40, e_38, e_36, e_34]; simp only [mset_nka c1, mset_nka c2, mset_nka c3]; exact h7F c c1 c2 c3, fun j j6 j7 => ?_, fun j => ?_, fun j => ?_, ?_, ?_⟩
                          · rw [e_40, e_38, e_36, e_34]; simp only [mset, h7j j j6 j7]; simp [j6, j7, h7j j j6 j7]
                          · rw [e_40, e_38, e_36, e_34, mset_nk (by decide)]; by_cases e : j = i.toNat
                            · subst e; rw [mset_eq, if_pos (by omega)]; first | exact eS | (rw [mset_nk (by decide), mset_nk (by decide)]; exact eS)
                            · rw [mset_ne (fun z => e z.2)]; first | (rw [h7a]) | (rw [mset_nk (by decide), mset_nk (by decide), h7a])
                              by_cases g : i < j ∧ (j : Int) < mem 21 0
                              · rw [if_pos g, if_pos (by omega)]
                              · rw [if_neg g, if_neg (by omega)]
                          · rw [e_40]; by_cases e : j = i.toNat
                            · subst e; rw [mset_eq, if_pos (by omega)]; congr 1 <;> simp [mset, eS, eLi]
                            · rw [mset_ne (fun z => e z.2)]; have e0 : m7 181 j = if i < j ∧ (j : Int) < mem 21 0 then min (mem 181 j) (behS f w s j) else mem 181 j := h7b j
                              have e1 : ∀ mm : Mem, mm 181 j = m7 181 j → mm 181 j = if i + -1 < j ∧ (j : Int) < mem 21 0 then min (mem 181 j) (behS f w s j) else mem 181 j := fun mm hmm => by
                                rw [hmm, e0]
                                by_cases g : i < j ∧ (j : Int) < mem 21 0
                                · rw [if_pos g, if_pos (by omega)]
                                · rw [if_neg g, if_neg (by omega)]
                              refine e1 _ ?_
                              subst_vars; simp [mset]
                          · rw [ei, h7g]
                            first
                              | (have x6 : m_39 179 6 = q := by rw [e_40, e_38, e_36, e_34]; simp [mset]
                                 have x7 : m_39 179 7 = i := by rw [e_40, e_38, e_36, e_34]; simp [mset]
                                 rw [if_pos ⟨hGi.mpr ⟨by omega, by omega⟩, by omega⟩, x6, x7, hnum, show ((i.toNat : Nat) : Int) = i by omega])
                              | (have x6 : m_39 179 6 = m7 179 6 := by rw [e_40, e_38, e_36, e_34]; simp [mset]
                                 have x7 : m_39 179 7 = m7 179 7 := by rw [e_40, e_38, e_36, e_34]; simp [mset]
                                 rw [if_neg (fun z => by have z1 := hGi.mp z.1; have z2 := z.2; omega), x6, x7])
                          · first
                            | (have x6 : m_39 179 6 = q := by rw [e_40, e_38, e_36, e_34]; simp [mset]
                               rw [x6]; right; omega)
                            | (have x6 : m_39 179 6 = m7 179 6 := by rw [e_40, e_38, e_36, e_34]; simp [mset]
                               rw [x6]; exact h7s)
                      · refine ok_aload_n F dX2_meetSale_165 0 rfl ?_
                        refine ok_getf (v := m7 179 6) F dX2_meetSale_166 kF_X2_62 sh_179 rfl rfl ?_
                        refine ok_iload_n F dX2_meetSale_169 3 rfl ?_
                        refine ok_icmp_ne F 184 dX2_meetSale_170 (by decide) (by omega) (by omega) (fun c_41 => ?_) (fun c_41 => ?_)
                        · refine ok_aload_n F dX2_meetSale_184 0 rfl ?_
                          refine ok_getr F dX2_meetSale_185 kF_X2_9 sh_179 rfl ?_
                          refine ok_iload F dX2_meetSale_188 5 rfl ?_
                          refine ok_aload_n F dX2_meetSale_190 0 rfl ?_
                          refine ok_getr F dX2_meetSale_191 kF_X2_28 sh_179 rfl ?_
                          refine ok_iload F dX2_meetSale_194 5 rfl ?_
                          refine ok_iald (v := m7 184 i.toNat) F dX2_meetSale_196 sh_184 (by first | decide | assumption) (by omega) (by omega) rfl ?_
                          refine ok_iast F dX2_meetSale_197 sh_180 (by first | decide | assumption) (by omega) (by omega) (fun m_42 e_43 => ?_)
                          refine ok_aload_n F dX2_meetSale_198 0 rfl ?_
                          refine ok_getr F dX2_meetSale_199 kF_X2_15 sh_179 rfl ?_
                          refine ok_iload F dX2_meetSale_202 5 rfl ?_
                          refine ok_aload_n F dX2_meetSale_204 0 rfl ?_
                          refine ok_getr F dX2_meetSale_205 kF_X2_15 sh_179 rfl ?_
                          refine ok_iload F dX2_meetSale_208 5 rfl ?_
                          refine ok_iald (v := m7 181 i.toNat) F dX2_meetSale_210 sh_181 (by first | decide | assumption) (by omega) (by omega) (by rw [e_43, mset_nk (by decide)] <;> rfl) ?_
                          refine ok_aload_n F dX2_meetSale_211 0 rfl ?_
                          refine ok_getr F dX2_meetSale_212 kF_X2_9 sh_179 rfl ?_
                          refine ok_iload F dX2_meetSale_215 5 rfl ?_
                          refine ok_iald (v := (m7 184 i.toNat)) F dX2_meetSale_217 sh_180 (by first | decide | assumption) (by omega) (by omega) (by rw [e_43]; exact mset_eq _ _ _ _) ?_
                          refine ok_mmin F dX2_meetSale_218 kL_X2_89 kS_J9_min_7cf53 kM_J9_min_7cf53.2.1 kM_J9_min_7cf53.2.2.1 (by omega) (by omega) (by decide) (Nat.le_of_ble_eq_true rfl) ?_
                          refine ok_iast F dX2_meetSale_221 sh_181 (by first | decide | assumption) (by omega) (by omega) (fun m_44 e_45 => ?_)
                          refine ok_iinc (lv' := [(5, pI (i + (-1))), (0, pR 179), (1, pR 21), (2, pI fa), (3, pI q), (4, pI z_2)]) F dX2_meetSale_222 5 rfl (by decide) rfl ?_
                          refine ok_goto F 133 dX2_meetSale_225 (by decide) ?_
                          refine ok_lvp [1, 2, 3, 4, 5, 0] (lv' := [(0, pR 179), (1, pR 21), (2, pI fa), (3, pI q), (4, pI z_2), (5, pI (i + (-1)))]) rfl ?_
                          refine ih_133 _ ?_ (i + (-1)) m_44 ?_ rfl
                          · omega
                          · have ek : (i + 1).toNat = i.toNat + 1 := by omega
                            have ei : (i + -1 + 1).toNat = i.toNat := by omega
                            rw [ek] at h7g
                            have egs : goneD (fun j => decide (rowS f w s j = 0) && decide (0 < w j)) nu (i.toNat + 1) (m7 179 6) (m7 179 7) = if (fun j => decide (rowS f w s j = 0) && decide (0 < w j)) i.toNat = true ∧ (m7 179 6 = -2 ∨ m7 179 6 = nu) then goneD (fun j => decide (rowS f w s j = 0) && decide (0 < w j)) nu i.toNat nu (i.toNat : Nat) else goneD (fun j => decide (rowS f w s j = 0) && decide (0 < w j)) nu i.toNat (m7 179 6) (m7 179 7) := rfl
                            rw [egs] at h7g
                            have hGi : (fun j => decide (rowS f w s j = 0) && decide (0 < w j)) i.toNat = true ↔ behS f w s i.toNat = 0 ∧ 0 < w i.toNat := by rw [Bool.and_eq_true, decide_eq_true_eq, decide_eq_true_eq, hrow i.toNat (by omega)]
                            refine ⟨by omega, by omega, fun c c1 c2 c3 => by rw [e_45, e_43]; simp only [mset_nka c1, mset_nka c2, mset_nka c3]; exact h7F c c1 c2 c3, fun j j6 j7 => ?_, fun j => ?_, fun j => ?_, ?_, ?_⟩
                            · rw [e_45, e_43]; simp only [mset, h7j j j6 j7]; simp [j6, j7, h7j j j6 j7]
                            · rw [e_45, e_43, mset_nk (by decide)]; by_cases e : j = i.toNat
                              · subst e; rw [mset_eq, if_pos (by omega)]; first | exact eS | (rw [mset_nk (by decide), mset_nk (by decide)]; exact eS)
                              · rw [mset_ne (fun z => e z.2)]; first | (rw [h7a]) | (rw [mset_nk (by decide), mset_nk (by decide), h7a])
                                by_cases g : i < j ∧ (j : Int) < mem 21 0
                                · rw [if_pos g, if_pos (by omega)]
                                · rw [if_neg g, if_neg (by omega)]
                            · rw [e_45]; by_cases e : j = i.toNat
                              · subst e; rw [mset_eq, if_pos (by omega)]; congr 1 <;> simp [mset, eS, eLi]
                              · rw [mset_ne (fun z => e z.2)]; have e0 : m7 181 j = if i < j ∧ (j : Int) < mem 21 0 then min (mem 181 j) (behS f w s j) else mem 181 j := h7b j
                                have e1 : ∀ mm : Mem, mm 181 j = m7 181 j → mm 181 j = if i + -1 < j ∧ (j : Int) < mem 21 0 then min (mem 181 j) (behS f w s j) else mem 181 j := fun mm hmm => by
                                  rw [hmm, e0]
                                  by_cases g : i < j ∧ (j : Int) < mem 21 0
                                  · rw [if_pos g, if_pos (by omega)]
                                  · rw [if_neg g, if_neg (by omega)]
                                refine e1 _ ?_
                                subst_vars; simp [mset]
                            · rw [ei, h7g]
                              first
                                | (have x6 : m_44 179 6 = q := by rw [e_45, e_43]; simp [mset]
                                   have x7 : m_44 179 7 = i := by rw [e_45, e_43]; simp [mset]
                                   rw [if_pos ⟨hGi.mpr ⟨by omega, by omega⟩, by omega⟩, x6, x7, hnum, show ((i.toNat : Nat) : Int) = i by omega])
                                | (have x6 : m_44 179 6 = m7 179 6 := by rw [e_45, e_43]; simp [mset]
                                   have x7 : m_44 179 7 = m7 179 7 := by rw [e_45, e_43]; simp [mset]
                                   rw [if_neg (fun z => by have z1 := hGi.mp z.1; have z2 := z.2; omega), x6, x7])
                            · first
                              | (have x6 : m_44 179 6 = q := by rw [e_45, e_43]; simp [mset]
                                 rw [x6]; right; omega)
                              | (have x6 : m_44 179 6 = m7 179 6 := by rw [e_45, e_43]; simp [mset]
                                 rw [x6]; exact h7s)
                        · refine ok_aload_n F dX2_meetSale_173 0 rfl ?_
                          refine ok_iload_n F dX2_meetSale_174 3 rfl ?_
                          refine ok_putf F dX2_meetSale_175 kF_X2_62 sh_179 rfl rfl rfl (fun m_46 e_47 => ?_)
                          refine ok_aload_n F dX2_meetSale_178 0 rfl ?_
                          refine ok_iload F dX2_meetSale_179 5 rfl ?_
                          refine ok_putf F dX2_meetSale_181 kF_X2_65 sh_179 rfl rfl rfl (fun m_48 e_49 => ?_)
                          refine ok_aload_n F dX2_meetSale_184 0 rfl ?_
                          refine ok_getr F dX2_meetSale_185 kF_X2_9 sh_179 rfl ?_
                          refine ok_iload F dX2_meetSale_188 5 rfl ?_
                          refine ok_aload_n F dX2_meetSale_190 0 rfl ?_
                          refine ok_getr F dX2_meetSale_191 kF_X2_28 sh_179 rfl ?_
                          refine ok_iload F dX2_meetSale_194 5 rfl ?_
                          refine ok_iald (v := m7 184 i.toNat) F dX2_meetSale_196 sh_184 (by first | decide | assumption) (by omega) (by omega) (by rw [e_49, mset_nk (by decide), e_47, mset_nk (by decide)] <;> rfl) ?_
                          refine ok_iast F dX2_meetSale_197 sh_180 (by first | decide | assumption) (by omega) (by omega) (fun m_50 e_51 => ?_)
                          refine ok_aload_n F dX2_meetSale_198 0 rfl ?_
                          refine ok_getr F dX2_meetSale_199 kF_X2_15 sh_179 rfl ?_
                          refine ok_iload F dX2_meetSale_202 5 rfl ?_
                          refine ok_aload_n F dX2_meetSale_204 0 rfl ?_
                          refine ok_getr F dX2_meetSale_205 kF_X2_15 sh_179 rfl ?_
                          refine ok_iload F dX2_meetSale_208 5 rfl ?_
                          refine ok_iald (v := m7 181 i.toNat) F dX2_meetSale_210 sh_181 (by first | decide | assumption) (by omega) (by omega) (by rw [e_51, mset_nk (by decide), e_49, mset_nk (by decide), e_47, mset_nk (by decide)] <;> rfl) ?_
                          refine ok_aload_n F dX2_meetSale_211 0 rfl ?_
                          refine ok_getr F dX2_meetSale_212 kF_X2_9 sh_179 rfl ?_
                          refine ok_iload F dX2_meetSale_215 5 rfl ?_
                          refine ok_iald (v := (m7 184 i.toNat)) F dX2_meetSale_217 sh_180 (by first | decide | assumption) (by omega) (by omega) (by rw [e_51]; exact mset_eq _ _ _ _) ?_
                          refine ok_mmin F dX2_meetSale_218 kL_X2_89 kS_J9_min_7cf53 kM_J9_min_7cf53.2.1 kM_J9_min_7cf53.2.2.1 (by omega) (by omega) (by decide) (Nat.le_of_ble_eq_true rfl) ?_
                          refine ok_iast F dX2_meetSale_221 sh_181 (by first | decide | assumption) (by omega) (by omega) (fun m_52 e_53 => ?_)
                          refine ok_iinc (lv' := [(5, pI (i + (-1))), (0, pR 179), (1, pR 21), (2, pI fa), (3, pI q), (4, pI z_2)]) F dX2_meetSale_222 5 rfl (by decide) rfl ?_
                          refine ok_goto F 133 dX2_meetSale_225 (by decide) ?_
                          refine ok_lvp [1, 2, 3, 4, 5, 0] (lv' := [(0, pR 179), (1, pR 21), (2, pI fa), (3, pI q), (4, pI z_2), (5, pI (i + (-1)))]) rfl ?_
                          refine ih_133 _ ?_ (i + (-1)) m_52 ?_ rfl
                          · omega
                          · have ek : (i + 1).toNat = i.toNat + 1 := by omega
                            have ei : (i + -1 + 1).toNat = i.toNat := by omega
                            rw [ek] at h7g
                            have egs : goneD (fun j => decide (rowS f w s j = 0) && decide (0 < w j)) nu (i.toNat + 1) (m7 179 6) (m7 179 7) = if (fun j => decide (rowS f w s j = 0) && decide (0 < w j)) i.toNat = true ∧ (m7 179 6 = -2 ∨ m7 179 6 = nu) then goneD (fun j => decide (rowS f w s j = 0) && decide (0 < w j)) nu i.toNat nu (i.toNat : Nat) else goneD (fun j => decide (rowS f w s j = 0) && decide (0 < w j)) nu i.toNat (m7 179 6) (m7 179 7) := rfl
                            rw [egs] at h7g
                            have hGi : (fun j => decide (rowS f w s j = 0) && decide (0 < w j)) i.toNat = true ↔ behS f w s i.toNat = 0 ∧ 0 < w i.toNat := by rw [Bool.and_eq_true, decide_eq_true_eq, decide_eq_true_eq, hrow i.toNat (by omega)]
                            refine ⟨by omega, by omega, fun c c1 c2 c3 => by rw [e_53, e_51, e_49, e_47]; simp only [mset_nka c1, mset_nka c2, mset_nka c3]; exact h7F c c1 c2 c3, fun j j6 j7 => ?_, fun j => ?_, fun j => ?_, ?_, ?_⟩
                            · rw [e_53, e_51, e_49, e_47]; simp only [mset, h7j j j6 j7]; simp [j6, j7, h7j j j6 j7]
                            · rw [e_53, e_51, e_49, e_47, mset_nk (by decide)]; by_cases e : j = i.toNat
                              · subst e; rw [mset_eq, if_pos (by omega)]; first | exact eS | (rw [mset_nk (by decide), mset_nk (by decide)]; exact eS)
                              · rw [mset_ne (fun z => e z.2)]; first | (rw [h7a]) | (rw [mset_nk (by decide), mset_nk (by decide), h7a])
                                by_cases g : i < j ∧ (j : Int) < mem 21 0
                                · rw [if_pos g, if_pos (by omega)]
                                · rw [if_neg g, if_neg (by omega)]
                            · rw [e_53]; by_cases e : j = i.toNat
                              · subst e; rw [mset_eq, if_pos (by omega)]; congr 1 <;> simp [mset, eS, eLi]
                              · rw [mset_ne (fun z => e z.2)]; have e0 : m7 181 j = if i < j ∧ (j : Int) < mem 21 0 then min (mem 181 j) (behS f w s j) else mem 181 j := h7b j
                                have e1 : ∀ mm : Mem, mm 181 j = m7 181 j → mm 181 j = if i + -1 < j ∧ (j : Int) < mem 21 0 then min (mem 181 j) (behS f w s j) else mem 181 j := fun mm hmm => by
                                  rw [hmm, e0]
                                  by_cases g : i < j ∧ (j : Int) < mem 21 0
                                  · rw [if_pos g, if_pos (by omega)]
                                  · rw [if_neg g, if_neg (by omega)]
                                refine e1 _ ?_
                                subst_vars; simp [mset]
                            · rw [ei, h7g]
                              first
                                | (have x6 : m_52 179 6 = q := by rw [e_53, e_51, e_49, e_47]; simp [mset]
                                   have x7 : m_52 179 7 = i := by rw [e_53, e_51, e_49, e_47]; simp [mset]
                                   rw [if_pos ⟨hGi.mpr ⟨by omega, by omega⟩, by omega⟩, x6, x7, hnum, show ((i.toNat : Nat) : Int) = i by omega])
                                | (have x6 : m_52 179 6 = m7 179 6 := by rw [e_53, e_51, e_49, e_47]; simp [mset]
                                   have x7 : m_52 179 7 = m7 179 7 := by rw [e_53, e_51, e_49, e_47]; simp [mset]
                                   rw [if_neg (fun z => by have z1 := hGi.mp z.1; have z2 := z.2; omega), x6, x7])
                            · first
                              | (have x6 : m_52 179 6 = q := by rw [e_53, e_51, e_49, e_47]; simp [mset]
                                 rw [x6]; right; omega)
                              | (have x6 : m_52 179 6 = m7 179 6 := by rw [e_53, e_51, e_49, e_47]; simp [mset]
                                 rw [x6]; exact h7s)
            refine ok_lvp [2, 3, 4, 5, 1, 0] (lv' := [(0, pR 179), (1, pR 21), (2, pI fa), (3, pI q), (4, pI z_2), (5, pI ((mem 21 0) - 1))]) rfl ?_
            refine hL_133 _ ((mem 21 0) - 1) m_19 ?_ rfl
            rw [← hmW]
            refine ⟨by omega, by omega, fun c c1 _ _ => eW c c1, fun _ _ _ => rfl, fun j => by rw [if_neg (by omega), eW 180 (by decide), v180], fun j => by rw [if_neg (by omega), eW 181 (by decide), v181], ?_, ?_⟩
            · rw [eWj 6 (by decide), eWj 7 (by decide), l6, l7, show (mem 21 0 - 1 + 1).toNat = (f 0).toNat by omega]
            · rw [eWj 6 (by decide), l6]; omega
          · refine ok_lvp [1, 2, 3, 4] (lv' := [(0, pR 179), (1, pR 21), (2, pI fa), (3, pI q)]) rfl ?_
            refine hJ_84 m_16 ?_
            first
              | (rw [← hmU]; refine ⟨fun c hc => by rw [v1 c (by omega) (by omega)]; exact kF c (by omega), vC, ?_, v182⟩; unfold shortS; rw [(full_any f w s).1.mp (by omega)]; exact Bool.or_true _)
              | (rw [← hmT]; refine ⟨fun c hc => kF c (by omega), k2, ?_, fun j hj => by rw [kF 182 (by decide)]; unfold spS; rw [if_pos (by omega)]⟩; unfold shortS; rw [decide_eq_true (by omega)]; rfl)
      · refine ok_aload_n F dX2_meetSale_12 0 rfl ?_
        refine ok_getr F dX2_meetSale_13 kF_X2_28 sh_179 rfl ?_
        refine ok_iload F dX2_meetSale_16 4 rfl ?_
        refine ok_aload_n F dX2_meetSale_18 0 rfl ?_
        refine ok_getr F dX2_meetSale_19 kF_X2_9 sh_179 rfl ?_
        refine ok_iload F dX2_meetSale_22 4 rfl ?_
        refine ok_iald (v := m 180 i.toNat) F dX2_meetSale_24 sh_180 (by first | decide | assumption) (by omega) (by omega) rfl ?_
        refine ok_aload_n F dX2_meetSale_25 1 rfl ?_
        refine ok_iload_n F dX2_meetSale_26 2 rfl ?_
        refine ok_iload_n F dX2_meetSale_27 3 rfl ?_
        refine ok_iadd F dX2_meetSale_28 ?_
        refine ok_iload F dX2_meetSale_29 4 rfl ?_
        refine ok_callv F [pI (fa + q), pI i] dX2_meetSale_31 kM_X6_givenOf kI_X6_givenOf kV_X6_givenOf kL_X2_71 (ci := 6) rfl sh_21 rfl (by decide) (Nat.le_of_ble_eq_true rfl) rfl (m_X6_givenOf _ (fa + q) i m (by omega) (by omega)) ?_
        rintro _ _ ⟨rfl, rfl⟩
        refine ok_iadd F dX2_meetSale_34 ?_
        refine ok_iast F dX2_meetSale_35 sh_184 (by first | decide | assumption) (by omega) (by omega) (fun m_54 e_55 => ?_)
        refine ok_iinc (lv' := [(4, pI (i + 1)), (0, pR 179), (1, pR 21), (2, pI fa), (3, pI q)]) F dX2_meetSale_36 4 rfl (by decide) rfl ?_
        refine ok_goto F 3 dX2_meetSale_39 (by decide) ?_
        refine ok_lvp [1, 2, 3, 4, 0] (lv' := [(0, pR 179), (1, pR 21), (2, pI fa), (3, pI q), (4, pI (i + 1))]) rfl ?_
        refine ih_3 _ ?_ (i + 1) m_54 ?_ rfl
        · omega
        · refine ⟨by omega, by omega, fun c hc => by rw [e_55, mset_nka hc]; exact hF c hc, fun j hj => ?_⟩
          rw [e_55]
          by_cases e : j = i.toNat
          · subst e; rw [mset_eq, hF 180 (by decide), hF 31 (by decide), l1 _ (by omega), show ((fa + q) * 8 + i).toNat = 8 * s + i.toNat by omega, rg2 _ (by omega)]; unfold stk; rw [if_pos (by omega)]
          · rw [mset_ne (fun z => e z.2)]; exact hM j (by omega)
  refine ok_lvp [1, 2, 3, 4, 0] (lv' := [(0, pR 179), (1, pR 21), (2, pI fa), (3, pI q), (4, pI 0)]) rfl ?_
  refine hL_3 _ 0 mem ?_ rfl
  exact ⟨by omega, by omega, fun _ _ => rfl, fun j hj => by omega⟩
