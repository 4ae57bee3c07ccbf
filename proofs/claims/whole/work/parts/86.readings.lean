/-! the class: what is read, beside what the reference has heard -/
theorem RS.all32 {m : Mem} {f : Nat → Int} (h : RS m 32 f) (hG : GR f) : fstD (m 40) (f 1) = f 2 := by
  have g1 := hG.2.1
  have q := h.fst hG (d := f 1) (by omega)
  have q2 : fstD (m 40) (f 1) = dayA f (f 1) := q
  rw [q2]
  unfold dayA
  by_cases z : f 1 < 1
  · rw [if_pos z]
    by_cases y : f 2 = 0
    · exact y.symm
    · have := (hG.2.2.2.2.2.2.2.1 0 (by have := hG.2.2.1; omega)).1
      omega
  · rw [if_neg z, all_end hG (Int.le_refl _)]
theorem RS.day32 {m : Mem} {f : Nat → Int} (h : RS m 32 f) (hG : GR f) (h1 : f 1 < 5) {mv : Mem} (e : mv = mset (mset m 40 (m 32 1).toNat (fstD (m 40) (m 32 1))) 32 1 (m 32 1 + 1)) : RS mv 32 (bump f) := by
  have ha := h.all32 hG
  have g1 := hG.2.1
  obtain ⟨r1, r2, r3, r4, r5⟩ := h
  have o : ∀ c, c ≠ 32 → c ≠ 40 → mv c = m c := fun c c1 c2 => by rw [e, mset_nka c1, mset_nka c2]
  refine ⟨?_, ?_, fun r hr k hk => ?_, fun s hs => ?_, fun d hd => ?_⟩
  · rw [e, mset_ne (by omega), mset_nk (by decide), bump_ne f (by decide)]; exact r1
  · rw [e, mset_eq, r2]; exact (if_pos rfl).symm
  · rw [o _ (by omega) (by omega), bump_ne f (by omega)]; exact r3 r hr k hk
  · rw [bump_ne f (by decide)] at hs
    rw [o _ (by omega) (by omega), o _ (by omega) (by omega)]
    have a1 : sPrice (bump f) s = sPrice f s := bump_ne f (by omega)
    have a2 : ∀ k, sGiven (bump f) s k = sGiven f s k := fun k => bump_ne f (by omega)
    rw [a1]
    exact ⟨(r4 s hs).1, fun k hk => by rw [a2 k]; exact (r4 s hs).2 k hk⟩
  · have hd2 : (d : Int) < f 1 + 1 := by
      have : bump f 1 = f 1 + 1 := if_pos rfl
      rw [this] at hd; exact hd
    show mv 40 d = _
    rw [bump_end, e, mset_nk (by decide), r2]
    by_cases c : d = (f 1).toNat
    · subst c
      rw [mset_eq, ha]
      exact (all_end hG (by omega)).symm
    · rw [mset_ne (fun q => c q.2)]
      exact r5 d (by omega)
abbrev GRx (f : Nat → Int) : Prop := GR f
def NewS (f f2 : Nat → Int) : Prop := f2 2 = f 2 + 1 ∧ f2 (59 + 10 * (f 2).toNat) = f 1 - 1 ∧ ∀ j : Nat, j ≠ 2 → j < 59 + 10 * (f 2).toNat → f2 j = f j
theorem NewS.old {f f2 : Nat → Int} (h : NewS f f2) {s : Nat} (hs : (s : Int) < f 2) : sDay f2 s = sDay f s ∧ sPrice f2 s = sPrice f s ∧ ∀ k : Nat, k < 8 → sGiven f2 s k = sGiven f s k := ⟨h.2.2 _ (by omega) (by omega), h.2.2 _ (by omega) (by omega), fun k hk => h.2.2 _ (by omega) (by omega)⟩
theorem NewS.ends {f f2 : Nat → Int} (h : NewS f f2) {d : Int} (h2 : 0 ≤ f 2) : endF f2 d = endF f d + (if f 1 - 1 ≤ d then 1 else 0) := by
  unfold endF
  rw [h.1, show (f 2 + 1).toNat = (f 2).toNat + 1 by omega]
  show sumN (fun s => if sDay f2 s ≤ d then (1 : Int) else 0) (f 2).toNat + (if sDay f2 (f 2).toNat ≤ d then 1 else 0) = _
  rw [show sDay f2 (f 2).toNat = f 1 - 1 from h.2.1, sumN_congr (g := fun s => if sDay f s ≤ d then (1 : Int) else 0) (fun s hs => by rw [(h.old (s := s) (by omega)).1])]
theorem NewS.GR {f f2 : Nat → Int} (h : NewS f f2) (hG : GR f) (h1 : 1 ≤ f 1) (h2 : f 2 < 40) (hp : 1 ≤ sPrice f2 (f 2).toNat ∧ sPrice f2 (f 2).toNat ≤ 1000) (hg : ∀ k : Nat, k < 8 → 0 ≤ sGiven f2 (f 2).toNat k ∧ sGiven f2 (f 2).toNat k ≤ 5) (ha : 0 ≤ abvS f2 (f 2).toNat ∧ abvS f2 (f 2).toNat ≤ 2500) : GR f2 := by
  obtain ⟨g0, g1, g2, g3, g4, g5, g6, g7, g8, g9⟩ := hG
  have lo : ∀ b, b ≠ 2 → b < 59 → f2 b = f b := fun b b1 b2 => h.2.2 b b1 (by omega)
  have e0 := lo 0 (by decide) (by decide)
  have e1 := lo 1 (by decide) (by decide)
  have e2 := h.1
  refine ⟨by rw [e0]; exact g0, by rw [e1]; exact g1, by rw [e2]; omega, fun i hi => by rw [lo _ (by omega) (by omega)]; exact g3 i hi, fun i hi => ?_, fun r hr k hk => by rw [lo _ (by omega) (by omega)]; exact g5 r hr k hk, fun i hi => ?_, fun s hs => ?_, fun s hs => ?_, ?_⟩
  · rw [e0] at hi; rw [lo _ (by omega) (by omega)]; exact g4 i hi
  · rw [e0] at hi; rw [lo _ (by omega) (by omega)]; exact g6 i hi
  · rw [e2] at hs
    have vv : ∀ k, k < (f 0).toNat → f2 (3 + k) = f (3 + k) := fun k hk => lo _ (by omega) (by omega)
    by_cases q : (s : Int) < f 2
    · obtain ⟨o1, o2, o3⟩ := h.old q
      rw [o1, o2, e1]
      refine ⟨(g7 s q).1, (g7 s q).2.1, fun k hk => by rw [o3 k hk]; exact (g7 s q).2.2.1 k hk, ?_⟩
      have ea : abvS f2 s = abvS f s := by
        unfold abvS
        rw [e0, o2, sumN_congr (g := fun k => sGiven f s k * f (3 + k)) (fun k hk => by rw [o3 k (by omega), vv k hk])]
      rw [ea]; exact (g7 s q).2.2.2
    · obtain rfl : s = (f 2).toNat := by omega
      rw [show sDay f2 (f 2).toNat = f 1 - 1 from h.2.1, e1]
      exact ⟨by omega, hp, hg, ha⟩
  · rw [e2] at hs
    rw [(h.old (s := s) (by omega)).1]
    by_cases q : (s : Int) + 1 < f 2
    · rw [(h.old (s := s + 1) (by omega)).1]; exact g8 s q
    · rw [show s + 1 = (f 2).toNat by omega, show sDay f2 (f 2).toNat = f 1 - 1 from h.2.1]
      have := (g7 s (by omega)).1
      omega
  · rw [e0, sumN_congr (g := fun k => f (43 + k)) (fun k hk => lo _ (by omega) (by omega))]; exact g9
theorem NewS.RS32 {m mv : Mem} {f f2 : Nat → Int} (h : NewS f f2) (hR : RS m 32 f) (hG : GRx f) (h1 : 1 ≤ f 1) (h2 : f 2 < 40) (e : ∀ c, 32 ≤ c → c ≤ 39 → mv c = m c) (e41 : ∀ j : Nat, j < 40 → mv 41 j = if j = (f 2).toNat then sPrice f2 j else m 41 j) (e42 : ∀ s : Nat, s < 40 → ∀ k : Nat, k < 8 → mv 42 (8 * s + k) = if s = (f 2).toNat then sGiven f2 s k else m 42 (8 * s + k)) (e40 : ∀ j : Nat, mv 40 j = if j = (f 1 - 1).toNat then m 40 j + 1 else m 40 j) : RS mv 32 f2 := by
  obtain ⟨r1, r2, r3, r4, r5⟩ := hR
  have g2 := hG.2.2.1
  have lo : ∀ b, b ≠ 2 → b < 59 → f2 b = f b := fun b b1 b2 => h.2.2 b b1 (by omega)
  refine ⟨?_, ?_, fun r hr k hk => ?_, fun s hs => ?_, fun d hd => ?_⟩
  · rw [e 32 (by decide) (by decide), lo 0 (by decide) (by decide)]; exact r1
  · rw [e 32 (by decide) (by decide), lo 1 (by decide) (by decide)]; exact r2
  · rw [e _ (by omega) (by omega), lo _ (by omega) (by omega)]; exact r3 r hr k hk
  · rw [h.1] at hs
    show mv 41 s = _ ∧ ∀ k : Nat, k < 8 → mv 42 (8 * s + k) = _
    rw [e41 s (by omega)]
    by_cases q : (s : Int) < f 2
    · obtain ⟨o1, o2, o3⟩ := h.old q
      rw [if_neg (by omega), o2]
      exact ⟨(r4 s q).1, fun k hk => by rw [e42 s (by omega) k hk, if_neg (by omega), o3 k hk]; exact (r4 s q).2 k hk⟩
    · rw [if_pos (by omega)]
      exact ⟨rfl, fun k hk => by rw [e42 _ (by omega) k hk, if_pos (by omega)]⟩
  · rw [lo 1 (by decide) (by decide)] at hd
    show mv 40 d = _
    rw [e40, h.ends g2.1]
    have q := r5 d hd
    have q2 : m 40 d = endF f d := q
    by_cases c : d = (f 1 - 1).toNat
    · rw [if_pos c, if_pos (by omega), q2]
    · rw [if_neg c, if_neg (by omega), Int.add_zero]; exact q
theorem tol_key : ∀ x : Fin 16, ∀ r : Fin 4, (0 ≤ ior (x.val : Int) (ishl 1 (r.val : Int)) ∧ ior (x.val : Int) (ishl 1 (r.val : Int)) ≤ 15) ∧ ∀ r2 : Fin 4, iand (ishr (ior (x.val : Int) (ishl 1 (r.val : Int))) (r2.val : Int)) 1 = if r2.val = r.val then 1 else iand (ishr (x.val : Int) (r2.val : Int)) 1 := by decide +kernel
/-- what stands of a text that has been right so far -/
def RH (g m : Mem) : Prop := g 0 9 = -1 ∧ RT g m ∧ RS m 32 (g 2) ∧ GR (g 2) ∧ (∀ j : Nat, 59 + 10 * (g 2 2).toNat ≤ j → g 2 j = 0) ∧ (0 ≤ m 175 6 ∧ m 175 6 ≤ 15) ∧ (∀ r : Nat, r < 4 → iand (ishr (m 175 6) (r : Int)) 1 = g 7 r) ∧ (∀ r : Nat, g 7 r = 0 ∨ g 7 r = 1) ∧ (1 ≤ g 2 1 → 1 ≤ g 2 0)
theorem numM_bad {m : Mem} (h : m 0 9 ≠ -1) (lo hi : Int) : numM m lo hi 0 9 = m 0 9 := by
  obtain ⟨_, _, _, e9, _⟩ := numM_at m lo hi
  rw [e9]
  unfold numR
  rw [if_pos h]
theorem kD_bad {m : Mem} (h : kA m 0 9 ≠ -1) : kD m 0 9 = kA m 0 9 ∧ kMore m = false := by
  have b : kB m = kA m := if_neg (fun q => h q.1)
  have c : kC m = kB m := if_neg (by rw [b]; exact h)
  have d : kD m = kC m := if_neg (by rw [c, b]; exact h)
  exact ⟨by rw [d, c, b], decide_eq_false (fun q => h (by rw [c, b] at q; exact q.1))⟩
theorem kindsL_stop {m : Mem} {F : Int} (h : kA m 0 9 = F) (hF : F ≠ -1) (c : Nat) : kindsL (c + 1) m 0 9 = F := by
  obtain ⟨a, b⟩ := kD_bad (m := m) (by rw [h]; exact hF)
  rw [kindsL_s, if_neg (by rw [b]; decide), a, h]
theorem kindsL_bad {m : Mem} (h : m 0 9 ≠ -1) (c : Nat) : kindsL (c + 1) m 0 9 = m 0 9 := by
  have a : kA m 0 9 = m 0 9 := by
    have n := numM_bad h 1 500
    unfold kA
    rw [if_neg (by rw [n]; exact fun q => h q.1), n]
  exact kindsL_stop a h c
theorem kA_eq {G : Mem} (h9 : G 0 9 = -1) {v : Int} (hN : 0 ≤ G 2 0) (hv : v = if G 2 0 = 0 then 0 else G 2 (3 + G 2 0 - 1).toNat) (h0 : 0 ≤ v) : (numM G (v + 1) 500 0 9 = -1 → kA G = numM G (v + 1) 500 ∧ (numR G 1 500).1 = (numR G (v + 1) 500).1) ∧ (numM G (v + 1) 500 0 9 ≠ -1 → kA G 0 9 = numM G (v + 1) 500 0 9) := by
  obtain ⟨a1, a2⟩ := numM_9 h9 1 500
  obtain ⟨b1, b2⟩ := numM_9 h9 (v + 1) 500
  by_cases d : dgN G
  · obtain ⟨x1, x2, x3, x4⟩ := a1 d
    obtain ⟨y1, y2, y3, y4⟩ := b1 d
    by_cases q : v + 1 ≤ (numL G 401 (ptP G) 0).2 ∧ (numL G 401 (ptP G) 0).2 ≤ 500
    · have e : numM G 1 500 = numM G (v + 1) 500 := by
        unfold numM
        rw [(numR_at h9 1 500).1 d, (numR_at h9 (v + 1) 500).1 d, if_pos (by omega), if_pos q]
      have r : (numR G 1 500).1 = (numR G (v + 1) 500).1 := by rw [x1, y1]
      refine ⟨fun _ => ⟨?_, r⟩, fun z => absurd (by rw [y3, if_pos q]) z⟩
      unfold kA
      rw [if_neg ?_, e]
      rintro ⟨_, z1, z2⟩
      rw [if_neg (by omega)] at hv
      rw [x1, ← hv] at z2
      omega
    · rw [if_neg q] at y3
      have hP : 0 ≤ 8 * ptP G + 2 ∨ ¬ 0 ≤ 8 * ptP G + 2 := Classical.em _
      refine ⟨fun z => ?_, fun z => ?_⟩
      · exfalso
        rw [y3] at z
        omega
      · rw [y3]
        unfold kA
        by_cases p : 1 ≤ (numL G 401 (ptP G) 0).2 ∧ (numL G 401 (ptP G) 0).2 ≤ 500
        · rw [if_pos p] at x3
          have hvn : ¬ G 2 0 = 0 := fun z2 => by rw [if_pos z2] at hv; omega
          rw [if_neg hvn] at hv
          rw [if_pos ⟨x3, by omega, by rw [x1, ← hv]; omega⟩]
          unfold flM
          rw [if_pos x3, mset_eq, x4]
        · rw [if_neg p] at x3
          by_cases w : numM G 1 500 0 9 = -1 ∧ 0 < G 2 0 ∧ (numR G 1 500).1 ≤ G 2 (3 + G 2 0 - 1).toNat
          · rw [x3] at w; omega
          · rw [if_neg w, x3]
  · have x := a2 d
    have y := b2 d
    refine ⟨fun z => ?_, fun _ => ?_⟩
    · exfalso
      rw [y] at z
      omega
    · rw [y]
      unfold kA
      rw [if_neg (fun w => by have := w.1; rw [x] at this; omega), x]
theorem KindGR {f f2 : Nat → Int} (hG : GR f) {V : Int} (hV : 1 ≤ V ∧ V ≤ 500) (h0 : f 0 < 8) (h1 : f 1 = 0) (h2 : f 2 = 0) (hS : ∀ j : Nat, 11 ≤ j → f j = startH j) (e0 : f2 0 = f 0 + 1) (eV : f2 (3 + f 0).toNat = V) (e : ∀ j : Nat, j ≠ 0 → j ≠ (3 + f 0).toNat → f2 j = f j) : GR f2 := by
  obtain ⟨g0, g1, g2, g3, g4, g5, g6, g7, g8, g9⟩ := hG
  have lo : ∀ j : Nat, 11 ≤ j → f2 j = startH j := fun j hj => by rw [e j (by omega) (by omega)]; exact hS j hj
  have e1 : f2 1 = 0 := by rw [e 1 (by decide) (by omega)]; exact h1
  have e2 : f2 2 = 0 := by rw [e 2 (by decide) (by omega)]; exact h2
  refine ⟨by rw [e0]; omega, by rw [e1]; decide, by rw [e2]; decide, fun i hi => ?_, fun i hi => ?_, fun r hr k hk => by rw [lo _ (by omega)]; exact startH_bd _, fun i hi => ?_, fun s hs => by rw [e2] at hs; omega, fun s hs => by rw [e2] at hs; omega, ?_⟩
  · by_cases z : 3 + i = (3 + f 0).toNat
    · rw [z, eV]; omega
    · rw [e _ (by omega) z]; exact g3 i hi
  · rw [e0] at hi
    by_cases z : 3 + i = (3 + f 0).toNat
    · rw [z, eV]; omega
    · rw [e _ (by omega) z]; exact g4 i (by omega)
  · rw [e0] at hi
    rw [lo _ (by omega)]
    unfold startH
    rw [if_neg (by omega), if_pos (by omega)]; decide
  · rw [sumN_z _ (fun k hk => by
      show f2 (43 + k) = 0
      rw [lo _ (by omega)]
      unfold startH
      rw [if_neg (by omega), if_neg (by omega)])]
    decide
