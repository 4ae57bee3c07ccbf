/-! the class: the letter, a sale, all of it -/
def pcC (f : Nat → Int) (p k j : Nat) : List Int := (if cnB f p k + j = 0 then 58 else 32) :: digN 3 (f (3 + k))
def kindC (f : Nat → Int) (p k : Nat) : List Int := catN (pcC f p k) (cntF f p k)
def saleC (f : Nat → Int) (p n : Nat) : List Int := strT 12 ++ (digN 3 (f (p + 1)) ++ catN (kindC f p) n)
theorem pcC_len (f : Nat → Int) (p k j : Nat) : (pcC f p k j).length ≤ 5 := by
  have := digN_len 3 (f (3 + k))
  unfold pcC
  rw [List.length_cons]
  omega
theorem kindC_len {f : Nat → Int} {p k : Nat} (h : f (p + 2 + k) ≤ 99) : (kindC f p k).length ≤ 495 := by
  have a := catN_len (g := pcC f p k) (B := 5) (cntF f p k) (fun j _ => pcC_len f p k j)
  have b : cntF f p k = (f (p + 2 + k)).toNat := rfl
  unfold kindC
  omega
theorem pcC_eq (f : Nat → Int) (p k : Nat) : ∀ c : Nat, catN (pcC f p k) c = (if cnB f p k + c = 0 ∨ cnB f p k ≠ 0 then [] else [58]) ++ catN (pcG f p k) c
  | 0 => by
    rw [if_pos (by omega)]; rfl
  | c + 1 => by
    rw [catN_s, catN_s, pcC_eq f p k c]
    unfold pcC pcG
    by_cases g : cnB f p k = 0
    · by_cases y : c = 0
      · subst y
        rw [if_pos (by omega), if_pos (by omega), if_neg (by omega), if_pos (by omega)]
        rfl
      · rw [if_neg (by omega), if_neg (by omega), if_neg (by omega), if_neg (by omega), List.append_assoc]
        rfl
    · rw [if_pos (by omega), if_neg (by omega), if_pos (by omega), if_neg (by omega), List.append_assoc]
      rfl
theorem kindG_nil (f : Nat → Int) (p : Nat) : ∀ n : Nat, cnB f p n = 0 → catN (kindG f p) n = []
  | 0, _ => rfl
  | n + 1, h => by
    rw [cnB_s] at h
    rw [catN_s, kindG_nil f p n (by omega)]
    unfold kindG
    rw [show cntF f p n = 0 by omega]
    rfl
theorem kindC_eq (f : Nat → Int) (p : Nat) : ∀ n : Nat, catN (kindC f p) n = (if cnB f p n = 0 then [] else [58]) ++ catN (kindG f p) n
  | 0 => rfl
  | n + 1 => by
    rw [catN_s, catN_s, kindC_eq f p n, cnB_s]
    unfold kindC kindG
    rw [pcC_eq]
    by_cases g : cnB f p n = 0
    · have e := kindG_nil f p n g
      unfold kindG at e
      rw [if_pos g, e, List.nil_append, List.nil_append, List.nil_append]
      by_cases y : cnB f p n + cntF f p n = 0
      · rw [if_pos (by omega), if_pos y]
      · rw [if_neg (by omega), if_neg y]
    · rw [if_neg g, if_pos (by omega), if_neg (by omega), List.append_assoc]
      rfl
theorem cnB_0 {f : Nat → Int} {p : Nat} : ∀ n : Nat, cnB f p n = 0 → ∀ k : Nat, k < n → cntF f p k = 0
  | 0, _, k, hk => absurd hk (Nat.not_lt_zero _)
  | n + 1, h, k, hk => by
    rw [cnB_s] at h
    by_cases y : k = n
    · rw [y]; omega
    · exact cnB_0 n (by omega) k (by omega)
theorem sumN_z {g : Nat → Int} : ∀ n : Nat, (∀ k, k < n → g k = 0) → sumN g n = 0
  | 0, _ => rfl
  | n + 1, h => by
    show sumN g n + g n = 0
    rw [sumN_z n (fun k hk => h k (by omega)), h n (by omega)]
    rfl
theorem saleC_eq {f : Nat → Int} (hG : GR f) {s : Nat} (hs : (s : Int) < f 2) : saleC f (59 + 10 * s) (f 0).toNat = saleT f (59 + 10 * s) (f 0).toNat := by
  obtain ⟨g0, g1, g2, g3, g4, g5, g6, g7, g8, g9⟩ := hG
  obtain ⟨a1, a2, a3, a4⟩ := g7 s hs
  have hne : cnB f (59 + 10 * s) (f 0).toNat ≠ 0 := by
    intro h
    have z := cnB_0 (f 0).toNat h
    have e : sumN (fun k => sGiven f s k * f (3 + k)) (f 0).toNat = 0 := by
      refine sumN_z _ (fun k hk => ?_)
      have c := z k hk
      have d := (a3 k (by omega)).1
      have c2 : cntF f (59 + 10 * s) k = (sGiven f s k).toNat := by
        unfold cntF sGiven
        rw [show 59 + 10 * s + 2 + k = 61 + 10 * s + k by omega]
      have q : sGiven f s k = 0 := by omega
      show sGiven f s k * f (3 + k) = 0
      rw [q, Int.zero_mul]
    unfold abvS at a4
    omega
  unfold saleC saleT
  rw [kindC_eq, if_neg hne]
theorem catN_blk (g : Nat → List Int) (A : Nat) : ∀ (C N : Nat), A + C ≤ N → catN (fun s => if A ≤ s ∧ s < A + C then g s else []) N = catN (fun i => g (A + i)) C := by
  have lo : ∀ (C n : Nat), n ≤ A → catN (fun s => if A ≤ s ∧ s < A + C then g s else []) n = [] := by
    intro C n
    induction n with
    | zero => intro _; rfl
    | succ n ih =>
      intro h
      rw [catN_s, ih (by omega)]
      show [] ++ (if A ≤ n ∧ n < A + C then g n else []) = []
      rw [if_neg (by omega)]
      rfl
  have mid : ∀ (C j : Nat), j ≤ C → catN (fun s => if A ≤ s ∧ s < A + C then g s else []) (A + j) = catN (fun i => g (A + i)) j := by
    intro C j
    induction j with
    | zero => intro _; exact lo C A (Nat.le_refl _)
    | succ j ih =>
      intro h
      rw [← Nat.add_assoc, catN_s, catN_s, ih (by omega)]
      show _ ++ (if A ≤ A + j ∧ A + j < A + C then g (A + j) else []) = _
      rw [if_pos (by omega)]
  intro C N h
  induction N with
  | zero =>
    have e : C = 0 := by omega
    subst e
    rfl
  | succ N ih =>
    by_cases y : A + C = N + 1
    · rw [← y]; exact mid C C (Nat.le_refl _)
    · rw [catN_s, ih (by omega)]
      show _ ++ (if A ≤ N ∧ N < A + C then g N else []) = _
      rw [if_neg (by omega), List.append_nil]
theorem dayG_blk {f : Nat → Int} (hG : GR f) {d : Int} (hd : 0 ≤ d) : dayG f d.toNat = strT 11 ++ catN (fun i => saleT f (59 + 10 * ((dayA f d).toNat + i)) (f 0).toNat) (dayC f d).toNat := by
  obtain ⟨d1, d2, d3, d4⟩ := day_iff hG hd
  unfold dayG
  congr 1
  rw [← catN_blk (fun s => saleT f (59 + 10 * s) (f 0).toNat) (dayA f d).toNat (dayC f d).toNat (f 2).toNat (by omega)]
  refine catN_congr _ (fun s hs => ?_)
  have q := d4 s (by omega)
  unfold daySG
  show (if sDay f s = ((d.toNat : Nat) : Int) then _ else _) = _
  rw [show ((d.toNat : Nat) : Int) = d by omega]
  by_cases g : sDay f s = d
  · rw [if_pos g, if_pos (by have := q.mp g; omega)]
  · rw [if_neg g, if_neg (by intro z; exact g (q.mpr (by omega)))]
theorem dX5_writeSale_0 : decode cX5_writeSale 0 = .ok (.aload_n 0, 1) := by decide +kernel
theorem dX5_writeSale_1 : decode cX5_writeSale 1 = .ok (.ldc 90, 2) := by decide +kernel
theorem dX5_writeSale_3 : decode cX5_writeSale 3 = .ok (.invokevirtual 58, 3) := by decide +kernel
theorem dX5_writeSale_6 : decode cX5_writeSale 6 = .ok (.aload_n 0, 1) := by decide +kernel
theorem dX5_writeSale_7 : decode cX5_writeSale 7 = .ok (.aload_n 1, 1) := by decide +kernel
theorem dX5_writeSale_8 : decode cX5_writeSale 8 = .ok (.iload_n 2, 1) := by decide +kernel
theorem dX5_writeSale_9 : decode cX5_writeSale 9 = .ok (.invokevirtual 92, 3) := by decide +kernel
theorem dX5_writeSale_12 : decode cX5_writeSale 12 = .ok (.invokevirtual 87, 3) := by decide +kernel
theorem dX5_writeSale_15 : decode cX5_writeSale 15 = .ok (.bipush 58, 2) := by decide +kernel
theorem dX5_writeSale_17 : decode cX5_writeSale 17 = .ok (.istore_n 3, 1) := by decide +kernel
theorem dX5_writeSale_18 : decode cX5_writeSale 18 = .ok (.iconst 0, 1) := by decide +kernel
theorem dX5_writeSale_19 : decode cX5_writeSale 19 = .ok (.istore 4, 2) := by decide +kernel
theorem dX5_writeSale_21 : decode cX5_writeSale 21 = .ok (.iload 4, 2) := by decide +kernel
theorem dX5_writeSale_23 : decode cX5_writeSale 23 = .ok (.aload_n 1, 1) := by decide +kernel
theorem dX5_writeSale_24 : decode cX5_writeSale 24 = .ok (.getfield 19, 3) := by decide +kernel
theorem dX5_writeSale_27 : decode cX5_writeSale 27 = .ok (.if_icmp .ge 53, 3) := by decide +kernel
theorem dX5_writeSale_30 : decode cX5_writeSale 30 = .ok (.aload_n 1, 1) := by decide +kernel
theorem dX5_writeSale_31 : decode cX5_writeSale 31 = .ok (.iload_n 2, 1) := by decide +kernel
theorem dX5_writeSale_32 : decode cX5_writeSale 32 = .ok (.iload 4, 2) := by decide +kernel
theorem dX5_writeSale_34 : decode cX5_writeSale 34 = .ok (.invokevirtual 95, 3) := by decide +kernel
theorem dX5_writeSale_37 : decode cX5_writeSale 37 = .ok (.istore 5, 2) := by decide +kernel
theorem dX5_writeSale_39 : decode cX5_writeSale 39 = .ok (.iconst 0, 1) := by decide +kernel
theorem dX5_writeSale_40 : decode cX5_writeSale 40 = .ok (.istore 6, 2) := by decide +kernel
theorem dX5_writeSale_42 : decode cX5_writeSale 42 = .ok (.iload 6, 2) := by decide +kernel
theorem dX5_writeSale_44 : decode cX5_writeSale 44 = .ok (.iload 5, 2) := by decide +kernel
theorem dX5_writeSale_46 : decode cX5_writeSale 46 = .ok (.if_icmp .ge 28, 3) := by decide +kernel
theorem dX5_writeSale_49 : decode cX5_writeSale 49 = .ok (.aload_n 0, 1) := by decide +kernel
theorem dX5_writeSale_50 : decode cX5_writeSale 50 = .ok (.iload_n 3, 1) := by decide +kernel
theorem dX5_writeSale_51 : decode cX5_writeSale 51 = .ok (.invokevirtual 83, 3) := by decide +kernel
theorem dX5_writeSale_54 : decode cX5_writeSale 54 = .ok (.aload_n 0, 1) := by decide +kernel
theorem dX5_writeSale_55 : decode cX5_writeSale 55 = .ok (.aload_n 1, 1) := by decide +kernel
theorem dX5_writeSale_56 : decode cX5_writeSale 56 = .ok (.getfield 25, 3) := by decide +kernel
theorem dX5_writeSale_59 : decode cX5_writeSale 59 = .ok (.iload 4, 2) := by decide +kernel
theorem dX5_writeSale_61 : decode cX5_writeSale 61 = .ok (.iaload, 1) := by decide +kernel
theorem dX5_writeSale_62 : decode cX5_writeSale 62 = .ok (.invokevirtual 87, 3) := by decide +kernel
theorem dX5_writeSale_65 : decode cX5_writeSale 65 = .ok (.bipush 32, 2) := by decide +kernel
theorem dX5_writeSale_67 : decode cX5_writeSale 67 = .ok (.istore_n 3, 1) := by decide +kernel
theorem dX5_writeSale_68 : decode cX5_writeSale 68 = .ok (.iinc 6 1, 3) := by decide +kernel
theorem dX5_writeSale_71 : decode cX5_writeSale 71 = .ok (.goto (-29), 3) := by decide +kernel
theorem dX5_writeSale_74 : decode cX5_writeSale 74 = .ok (.iinc 4 1, 3) := by decide +kernel
theorem dX5_writeSale_77 : decode cX5_writeSale 77 = .ok (.goto (-56), 3) := by decide +kernel
theorem dX5_writeSale_80 : decode cX5_writeSale 80 = .ok (.return_, 1) := by decide +kernel
set_option maxHeartbeats 4000000 in
set_option maxRecDepth 100000 in
theorem m_X5_writeSale (l : Launch) (f : Nat → Int) (s : Int) (mem : Mem) (hRS : RS mem 21 f) (hG : GR f) (hs : 0 ≤ s ∧ s < f 2) (hW : 0 ≤ mem 209 0 ∧ mem 209 0 ≤ 900000000) (hK : i32 (mem 209 2)) : Ret shp l yX5_writeSale cX5_writeSale 7 none 5 [pR 209, pR 21, pI s] mem (fun rv mv => rv = none ∧ mv = wcM (saleC f (59 + 10 * s.toNat) (f 0).toNat) mem) := by
  refine ret_of (by decide +kernel) (Nat.le_of_ble_eq_true rfl) (fun X hX F G => ?_)
  show Ok shp X 7 0 [(0, pR 209), (1, pR 21), (2, pI s)] [] mem
  obtain ⟨g0, g1, g2, g3, g4, g5, g6, g7, g8, g9⟩ := id hG
  obtain ⟨q0, q1, q2, q3, q4⟩ := id hRS
  have dl := digN_len 3 (f ((59 + 10 * s.toNat) + 1))
  have al := strT_len (w := 12) (by decide)
  obtain ⟨u1, u2, u3, u4⟩ := g7 s.toNat (by omega)
  obtain ⟨u5, u6⟩ := q3 s.toNat (by omega)
  have hPr : sPrice f s.toNat = f (59 + 10 * s.toNat + 1) := by unfold sPrice; rw [show 60 + 10 * s.toNat = 59 + 10 * s.toNat + 1 by omega]
  have hGv : ∀ k : Nat, k < 8 → sGiven f s.toNat k = f (59 + 10 * s.toNat + 2 + k) := fun k _ => by unfold sGiven; rw [show 61 + 10 * s.toNat + k = 59 + 10 * s.toNat + 2 + k by omega]
  have h210 : mem 21 0 = f 0 := q0
  refine ok_aload_n F dX5_writeSale_0 0 rfl ?_
  refine ok_ldcs (i := 12) F dX5_writeSale_1 (List.mem_of_getElem? (i := 13) rfl) ?_
  refine ok_callv F [pR (1000 + 12)] dX5_writeSale_3 kM_X5_writeText kI_X5_writeText kV_X5_writeText kL_X5_58 (ci := 5) rfl sh_209 rfl (by decide) (Nat.le_of_ble_eq_true rfl) rfl (m_X5_writeText _ 12 mem (by decide) (by omega) (by omega)) ?_
  rintro _ m_1 ⟨rfl, e_2⟩
  have ea := e_2
  obtain ⟨a1, a2, a3⟩ := wcE e_2
  refine ok_aload_n F dX5_writeSale_6 0 rfl ?_
  refine ok_aload_n F dX5_writeSale_7 1 rfl ?_
  refine ok_iload_n F dX5_writeSale_8 2 rfl ?_
  refine ok_callv F [pI s] dX5_writeSale_9 kM_X6_priceOf kI_X6_priceOf kV_X6_priceOf kL_X5_92 (ci := 6) rfl sh_21 rfl (by decide) (Nat.le_of_ble_eq_true rfl) rfl (m_X6_priceOf _ s m_1 (by omega)) ?_
  rintro _ _ ⟨rfl, rfl⟩
  refine ok_callv F [pI (m_1 30 s.toNat)] dX5_writeSale_12 kM_X5_writeNumber kI_X5_writeNumber kV_X5_writeNumber kL_X5_87 (ci := 5) rfl sh_209 rfl (by decide) (Nat.le_of_ble_eq_true rfl) rfl (m_X5_writeNumber _ (m_1 30 s.toNat) m_1 (by rw [a3 30 (by decide), u5]; omega) (by omega) (by omega)) ?_
  rintro _ m_3 ⟨rfl, e_4⟩
  have eb := e_4
  rw [a3 30 (by decide), u5, hPr] at eb
  obtain ⟨b1, b2, b3⟩ := wcE eb
  obtain ⟨mH, hmH⟩ : ∃ x, x = m_3 := ⟨_, rfl⟩
  have eH : mH = wcM (strT 12 ++ digN 3 (f ((59 + 10 * s.toNat) + 1))) mem := by rw [wcM_app, ← ea, hmH]; exact eb
  have hH1 : ∀ a, a ≠ 209 → mH a = mem a := fun a ha => by rw [hmH, b3 a ha, a3 a ha]
  have hH31 : mH 209 0 ≤ mem 209 0 + 20 := by rw [hmH]; omega
  have hH30 : 0 ≤ mH 209 0 := by rw [hmH]; omega
  have hH32 : mH 209 2 = mem 209 2 := by rw [hmH]; omega
  refine ok_bipush F dX5_writeSale_15 rfl ?_
  refine ok_istore_n (lv' := [(3, pI 58), (0, pR 209), (1, pR 21), (2, pI s)]) F dX5_writeSale_17 (by decide) rfl ?_
  refine ok_iconst F dX5_writeSale_18 ?_
  refine ok_istore (lv' := [(4, pI 0), (3, pI 58), (0, pR 209), (1, pR 21), (2, pI s)]) F dX5_writeSale_19 (by decide) rfl ?_
  have hL_21 : ∀ (n_21 : Nat) (z : Int) (k : Int) (m : Mem), (0 ≤ k ∧ k ≤ f 0 ∧ z = (if cnB f (59 + 10 * s.toNat) k.toNat = 0 then 58 else 32) ∧ m = wcM (catN (kindC f (59 + 10 * s.toNat)) k.toNat) mH) → (f 0 - k).toNat = n_21 → Ok shp X 7 21 [(0, pR 209), (1, pR 21), (2, pI s), (3, pI z), (4, pI k)] [] m := by
    intro n_21
    induction n_21 using Nat.strongRecOn with
    | _ n_21 ih_21 =>
      intro z k m hI_21 hn_21
      obtain ⟨hk0, hk1, hz, hE⟩ := hI_21
      obtain ⟨x1, x2, x3⟩ := wcE hE
      have xl := catN_len (g := kindC f (59 + 10 * s.toNat)) (B := 495) k.toNat (fun j hj => kindC_len (by have := u3 j (by omega); rw [hGv j (by omega)] at this; omega))
      have hma : ∀ a, a ≠ 209 → m a = mem a := fun a ha => by rw [x3 a ha]; exact hH1 a ha
      have h1 := hma 21 (by decide)
      have h31 := hma 31 (by decide)
      refine ok_iload F dX5_writeSale_21 4 rfl ?_
      refine ok_aload_n F dX5_writeSale_23 1 rfl ?_
      refine ok_getf (v := mem 21 0) F dX5_writeSale_24 kF_X5_19 sh_21 rfl (by rw [h1] <;> rfl) ?_
      refine ok_icmp_ge F 80 dX5_writeSale_27 (by decide) (by omega) (by omega) (fun c_5 => ?_) (fun c_5 => ?_)
      · refine ok_vret F G dX5_writeSale_80 ?_
        refine ⟨rfl, ?_⟩
        rw [hE, show k = f 0 by omega, eH]
        unfold saleC
        rw [← wcM_app, List.append_assoc]
      · refine ok_aload_n F dX5_writeSale_30 1 rfl ?_
        refine ok_iload_n F dX5_writeSale_31 2 rfl ?_
        refine ok_iload F dX5_writeSale_32 4 rfl ?_
        refine ok_callv F [pI s, pI k] dX5_writeSale_34 kM_X6_givenOf kI_X6_givenOf kV_X6_givenOf kL_X5_95 (ci := 6) rfl sh_21 rfl (by decide) (Nat.le_of_ble_eq_true rfl) rfl (m_X6_givenOf _ s k m (by omega) (by omega)) ?_
        rintro _ _ ⟨rfl, rfl⟩
        refine ok_istore (lv' := [(5, pI (m 31 (s * 8 + k).toNat)), (0, pR 209), (1, pR 21), (2, pI s), (3, pI z), (4, pI k)]) F dX5_writeSale_37 (by decide) rfl ?_
        refine ok_iconst F dX5_writeSale_39 ?_
        refine ok_istore (lv' := [(6, pI 0), (5, pI (m 31 (s * 8 + k).toNat)), (0, pR 209), (1, pR 21), (2, pI s), (3, pI z), (4, pI k)]) F dX5_writeSale_40 (by decide) rfl ?_
        have hgk := u3 k.toNat (by omega)
        rw [hGv k.toNat (by omega)] at hgk
        have hvk := g3 k.toNat (by omega)
        have hv22 : mem 22 k.toNat = f (3 + k.toNat) := by have := q2 0 (by decide) k.toNat (by omega); exact this
        have hc31 : m 31 (s * 8 + k).toNat = f (59 + 10 * s.toNat + 2 + k.toNat) := by rw [h31, show (s * 8 + k).toNat = 8 * s.toNat + k.toNat by omega, u6 k.toNat (by omega)]; exact hGv k.toNat (by omega)
        have hL_42 : ∀ (n_42 : Nat) (z : Int) (c : Int) (m2 : Mem), (0 ≤ c ∧ c ≤ f ((59 + 10 * s.toNat) + 2 + k.toNat) ∧ z = (if cnB f (59 + 10 * s.toNat) k.toNat + c.toNat = 0 then 58 else 32) ∧ m2 = wcM (catN (pcC f (59 + 10 * s.toNat) k.toNat) c.toNat) m) → (f ((59 + 10 * s.toNat) + 2 + k.toNat) - c).toNat = n_42 → Ok shp X 7 42 [(0, pR 209), (1, pR 21), (2, pI s), (3, pI z), (4, pI k), (5, pI (m 31 (s * 8 + k).toNat)), (6, pI c)] [] m2 := by
          intro n_42
          induction n_42 using Nat.strongRecOn with
          | _ n_42 ih_42 =>
            intro z c m2 hI_42 hn_42
            obtain ⟨hc0, hc1, hz2, hE2⟩ := hI_42
            obtain ⟨v1, v2, v3⟩ := wcE hE2
            have vl := catN_len (g := pcC f (59 + 10 * s.toNat) k.toNat) (B := 5) c.toNat (fun j _ => pcC_len _ _ _ j)
            have h22 : m2 22 = mem 22 := by rw [v3 22 (by decide)]; exact hma 22 (by decide)
            refine ok_iload F dX5_writeSale_42 6 rfl ?_
            refine ok_iload F dX5_writeSale_44 5 rfl ?_
            refine ok_icmp_ge F 74 dX5_writeSale_46 (by decide) (by omega) (by omega) (fun c_6 => ?_) (fun c_6 => ?_)
            · refine ok_iinc (lv' := [(4, pI (k + 1)), (0, pR 209), (1, pR 21), (2, pI s), (3, pI z), (5, pI (m 31 (s * 8 + k).toNat)), (6, pI c)]) F dX5_writeSale_74 4 rfl (by decide) rfl ?_
              refine ok_goto F 21 dX5_writeSale_77 (by decide) ?_
              refine ok_lvp [1, 2, 3, 4, 0] (lv' := [(0, pR 209), (1, pR 21), (2, pI s), (3, pI z), (4, pI (k + 1))]) rfl ?_
              refine ih_21 _ ?_ z (k + 1) m2 ?_ rfl
              · omega
              · have ec : c.toNat = cntF f (59 + 10 * s.toNat) k.toNat := by unfold cntF; omega
                refine ⟨by omega, by omega, ?_, ?_⟩
                · rw [hz2, show (k + 1).toNat = k.toNat + 1 by omega, cnB_s, ec]
                · rw [hE2, show (k + 1).toNat = k.toNat + 1 by omega, catN_s, wcM_app, ← hE, ec]; rfl
            · refine ok_aload_n F dX5_writeSale_49 0 rfl ?_
              refine ok_iload_n F dX5_writeSale_50 3 rfl ?_
              refine ok_callv F [pI z] dX5_writeSale_51 kM_X5_writeByte kI_X5_writeByte kV_X5_writeByte kL_X5_83 (ci := 5) rfl sh_209 rfl (by decide) (Nat.le_of_ble_eq_true rfl) rfl (m_X5_writeByte _ z m2 (by omega) (by omega)) ?_
              rintro _ m_7 ⟨rfl, e_8⟩
              have es := e_8
              obtain ⟨s1, s2, s3⟩ := wd1E e_8
              refine ok_aload_n F dX5_writeSale_54 0 rfl ?_
              refine ok_aload_n F dX5_writeSale_55 1 rfl ?_
              refine ok_getr F dX5_writeSale_56 kF_X5_25 sh_21 rfl ?_
              refine ok_iload F dX5_writeSale_59 4 rfl ?_
              refine ok_iald (v := m_7 22 k.toNat) F dX5_writeSale_61 sh_22 (by first | decide | assumption) (by omega) (by omega) rfl ?_
              have k1 : m_7 22 k.toNat = f (3 + k.toNat) := by rw [s3 22 (by decide), h22]; exact hv22
              refine ok_callv F [pI (m_7 22 k.toNat)] dX5_writeSale_62 kM_X5_writeNumber kI_X5_writeNumber kV_X5_writeNumber kL_X5_87 (ci := 5) rfl sh_209 rfl (by decide) (Nat.le_of_ble_eq_true rfl) rfl (m_X5_writeNumber _ (m_7 22 k.toNat) m_7 (by rw [k1]; omega) (by omega) (by omega)) ?_
              rintro _ m_9 ⟨rfl, e_10⟩
              have eN := e_10
              rw [k1] at eN
              refine ok_bipush F dX5_writeSale_65 rfl ?_
              refine ok_istore_n (lv' := [(3, pI 32), (0, pR 209), (1, pR 21), (2, pI s), (4, pI k), (5, pI (m 31 (s * 8 + k).toNat)), (6, pI c)]) F dX5_writeSale_67 (by decide) rfl ?_
              refine ok_iinc (lv' := [(6, pI (c + 1)), (3, pI 32), (0, pR 209), (1, pR 21), (2, pI s), (4, pI k), (5, pI (m 31 (s * 8 + k).toNat))]) F dX5_writeSale_68 6 rfl (by decide) rfl ?_
              refine ok_goto F 42 dX5_writeSale_71 (by decide) ?_
              refine ok_lvp [2, 3, 4, 1, 5, 6, 0] (lv' := [(0, pR 209), (1, pR 21), (2, pI s), (3, pI 32), (4, pI k), (5, pI (m 31 (s * 8 + k).toNat)), (6, pI (c + 1))]) rfl ?_
              refine ih_42 _ ?_ 32 (c + 1) m_9 ?_ rfl
              · omega
              · refine ⟨by omega, by omega, by rw [if_neg (by omega)], ?_⟩
                rw [show (c + 1).toNat = c.toNat + 1 by omega, catN_s, wcM_app, ← hE2]
                unfold pcC
                rw [wcM_c, eN, es, hz2]
        refine ok_lvp [2, 3, 4, 5, 6, 1, 0] (lv' := [(0, pR 209), (1, pR 21), (2, pI s), (3, pI z), (4, pI k), (5, pI (m 31 (s * 8 + k).toNat)), (6, pI 0)]) rfl ?_
        refine hL_42 _ z 0 m ?_ rfl
        exact ⟨by omega, by omega, hz, rfl⟩
  refine ok_lvp [2, 3, 4, 1, 0] (lv' := [(0, pR 209), (1, pR 21), (2, pI s), (3, pI 58), (4, pI 0)]) rfl ?_
  refine hL_21 _ 58 0 m_3 ?_ rfl
  exact ⟨by omega, by omega, rfl, hmH.symm⟩
theorem dX5_write_0 : decode cX5_write 0 = .ok (.aload_n 0, 1) := by decide +kernel
theorem dX5_write_1 : decode cX5_write 1 = .ok (.iconst 0, 1) := by decide +kernel
theorem dX5_write_2 : decode cX5_write 2 = .ok (.putfield 7, 3) := by decide +kernel
theorem dX5_write_5 : decode cX5_write 5 = .ok (.aload_n 0, 1) := by decide +kernel
theorem dX5_write_6 : decode cX5_write 6 = .ok (.iconst 0, 1) := by decide +kernel
theorem dX5_write_7 : decode cX5_write 7 = .ok (.putfield 13, 3) := by decide +kernel
theorem dX5_write_10 : decode cX5_write 10 = .ok (.aload_n 0, 1) := by decide +kernel
theorem dX5_write_11 : decode cX5_write 11 = .ok (.iload_n 2, 1) := by decide +kernel
theorem dX5_write_12 : decode cX5_write 12 = .ok (.putfield 16, 3) := by decide +kernel
theorem dX5_write_15 : decode cX5_write 15 = .ok (.aload_n 1, 1) := by decide +kernel
theorem dX5_write_16 : decode cX5_write 16 = .ok (.getfield 19, 3) := by decide +kernel
theorem dX5_write_19 : decode cX5_write 19 = .ok (.ifCond .ne 4, 3) := by decide +kernel
theorem dX5_write_22 : decode cX5_write 22 = .ok (.return_, 1) := by decide +kernel
theorem dX5_write_23 : decode cX5_write 23 = .ok (.aload_n 0, 1) := by decide +kernel
theorem dX5_write_24 : decode cX5_write 24 = .ok (.ldc 24, 2) := by decide +kernel
theorem dX5_write_26 : decode cX5_write 26 = .ok (.aload_n 1, 1) := by decide +kernel
theorem dX5_write_27 : decode cX5_write 27 = .ok (.aload_n 1, 1) := by decide +kernel
theorem dX5_write_28 : decode cX5_write 28 = .ok (.getfield 25, 3) := by decide +kernel
theorem dX5_write_31 : decode cX5_write 31 = .ok (.invokevirtual 29, 3) := by decide +kernel
theorem dX5_write_34 : decode cX5_write 34 = .ok (.aload_n 0, 1) := by decide +kernel
theorem dX5_write_35 : decode cX5_write 35 = .ok (.ldc 33, 2) := by decide +kernel
theorem dX5_write_37 : decode cX5_write 37 = .ok (.aload_n 1, 1) := by decide +kernel
theorem dX5_write_38 : decode cX5_write 38 = .ok (.aload_n 1, 1) := by decide +kernel
theorem dX5_write_39 : decode cX5_write 39 = .ok (.getfield 35, 3) := by decide +kernel
theorem dX5_write_42 : decode cX5_write 42 = .ok (.invokevirtual 29, 3) := by decide +kernel
theorem dX5_write_45 : decode cX5_write 45 = .ok (.aload_n 0, 1) := by decide +kernel
theorem dX5_write_46 : decode cX5_write 46 = .ok (.ldc 38, 2) := by decide +kernel
theorem dX5_write_48 : decode cX5_write 48 = .ok (.aload_n 1, 1) := by decide +kernel
theorem dX5_write_49 : decode cX5_write 49 = .ok (.aload_n 1, 1) := by decide +kernel
theorem dX5_write_50 : decode cX5_write 50 = .ok (.getfield 40, 3) := by decide +kernel
theorem dX5_write_53 : decode cX5_write 53 = .ok (.invokevirtual 29, 3) := by decide +kernel
theorem dX5_write_56 : decode cX5_write 56 = .ok (.aload_n 0, 1) := by decide +kernel
theorem dX5_write_57 : decode cX5_write 57 = .ok (.ldc 43, 2) := by decide +kernel
theorem dX5_write_59 : decode cX5_write 59 = .ok (.aload_n 1, 1) := by decide +kernel
theorem dX5_write_60 : decode cX5_write 60 = .ok (.aload_n 1, 1) := by decide +kernel
theorem dX5_write_61 : decode cX5_write 61 = .ok (.getfield 45, 3) := by decide +kernel
theorem dX5_write_64 : decode cX5_write 64 = .ok (.invokevirtual 29, 3) := by decide +kernel
theorem dX5_write_67 : decode cX5_write 67 = .ok (.aload_n 0, 1) := by decide +kernel
theorem dX5_write_68 : decode cX5_write 68 = .ok (.ldc 48, 2) := by decide +kernel
theorem dX5_write_70 : decode cX5_write 70 = .ok (.aload_n 1, 1) := by decide +kernel
theorem dX5_write_71 : decode cX5_write 71 = .ok (.aload_n 1, 1) := by decide +kernel
theorem dX5_write_72 : decode cX5_write 72 = .ok (.getfield 50, 3) := by decide +kernel
theorem dX5_write_75 : decode cX5_write 75 = .ok (.invokevirtual 29, 3) := by decide +kernel
theorem dX5_write_78 : decode cX5_write 78 = .ok (.iconst 0, 1) := by decide +kernel
theorem dX5_write_79 : decode cX5_write 79 = .ok (.istore_n 3, 1) := by decide +kernel
theorem dX5_write_80 : decode cX5_write 80 = .ok (.iload_n 3, 1) := by decide +kernel
theorem dX5_write_81 : decode cX5_write 81 = .ok (.aload_n 1, 1) := by decide +kernel
theorem dX5_write_82 : decode cX5_write 82 = .ok (.getfield 53, 3) := by decide +kernel
theorem dX5_write_85 : decode cX5_write 85 = .ok (.if_icmp .ge 55, 3) := by decide +kernel
theorem dX5_write_88 : decode cX5_write 88 = .ok (.aload_n 0, 1) := by decide +kernel
theorem dX5_write_89 : decode cX5_write 89 = .ok (.ldc 56, 2) := by decide +kernel
theorem dX5_write_91 : decode cX5_write 91 = .ok (.invokevirtual 58, 3) := by decide +kernel
theorem dX5_write_94 : decode cX5_write 94 = .ok (.aload_n 1, 1) := by decide +kernel
theorem dX5_write_95 : decode cX5_write 95 = .ok (.iload_n 3, 1) := by decide +kernel
theorem dX5_write_96 : decode cX5_write 96 = .ok (.invokevirtual 62, 3) := by decide +kernel
theorem dX5_write_99 : decode cX5_write 99 = .ok (.istore 4, 2) := by decide +kernel
theorem dX5_write_101 : decode cX5_write 101 = .ok (.aload_n 1, 1) := by decide +kernel
theorem dX5_write_102 : decode cX5_write 102 = .ok (.iload_n 3, 1) := by decide +kernel
theorem dX5_write_103 : decode cX5_write 103 = .ok (.invokevirtual 66, 3) := by decide +kernel
theorem dX5_write_106 : decode cX5_write 106 = .ok (.istore 5, 2) := by decide +kernel
theorem dX5_write_108 : decode cX5_write 108 = .ok (.iconst 0, 1) := by decide +kernel
theorem dX5_write_109 : decode cX5_write 109 = .ok (.istore 6, 2) := by decide +kernel
theorem dX5_write_111 : decode cX5_write 111 = .ok (.iload 6, 2) := by decide +kernel
theorem dX5_write_113 : decode cX5_write 113 = .ok (.iload 5, 2) := by decide +kernel
theorem dX5_write_115 : decode cX5_write 115 = .ok (.if_icmp .ge 19, 3) := by decide +kernel
theorem dX5_write_118 : decode cX5_write 118 = .ok (.aload_n 0, 1) := by decide +kernel
theorem dX5_write_119 : decode cX5_write 119 = .ok (.aload_n 1, 1) := by decide +kernel
theorem dX5_write_120 : decode cX5_write 120 = .ok (.iload 4, 2) := by decide +kernel
theorem dX5_write_122 : decode cX5_write 122 = .ok (.iload 6, 2) := by decide +kernel
theorem dX5_write_124 : decode cX5_write 124 = .ok (.iadd, 1) := by decide +kernel
theorem dX5_write_125 : decode cX5_write 125 = .ok (.invokevirtual 69, 3) := by decide +kernel
theorem dX5_write_128 : decode cX5_write 128 = .ok (.iinc 6 1, 3) := by decide +kernel
theorem dX5_write_131 : decode cX5_write 131 = .ok (.goto (-20), 3) := by decide +kernel
theorem dX5_write_134 : decode cX5_write 134 = .ok (.iinc 3 1, 3) := by decide +kernel
theorem dX5_write_137 : decode cX5_write 137 = .ok (.goto (-57), 3) := by decide +kernel
theorem dX5_write_140 : decode cX5_write 140 = .ok (.return_, 1) := by decide +kernel
set_option maxHeartbeats 4000000 in
set_option maxRecDepth 100000 in
theorem m_X5_write (l : Launch) (f : Nat → Int) (k : Int) (mem : Mem) (hRS : RS mem 21 f) (hG : GR f) (hk : i32 k) : Ret shp l yX5_write cX5_write 7 none 6 [pR 209, pR 21, pI k] mem (fun rv mv => rv = none ∧ mv = wcM (allT f) (mset (mset (mset mem 209 0 0) 209 1 0) 209 2 k)) := by
  refine ret_of (by decide +kernel) (Nat.le_of_ble_eq_true rfl) (fun X hX F G => ?_)
  show Ok shp X 7 0 [(0, pR 209), (1, pR 21), (2, pI k)] [] mem
  obtain ⟨g0, g1, g2, g3, g4, g5, g6, g7, g8, g9⟩ := id hG
  obtain ⟨q0, q1, q2, q3, q4⟩ := id hRS
  have h210 : mem 21 0 = f 0 := q0
  have hl := fun w (hw : w < 13) (s : Nat) => (show (rowT w f s (f 0).toNat).length ≤ 46 from by
    have a := catN_len (g := rowG f s) (B := 5) (f 0).toNat (fun j _ => rowG_len _ _ j)
    have b := strT_len hw
    unfold rowT
    rw [List.length_append]
    omega)
  refine ok_aload_n F dX5_write_0 0 rfl ?_
  refine ok_iconst F dX5_write_1 ?_
  refine ok_putf F dX5_write_2 kF_X5_7 sh_209 rfl rfl rfl (fun m_1 e_2 => ?_)
  refine ok_aload_n F dX5_write_5 0 rfl ?_
  refine ok_iconst F dX5_write_6 ?_
  refine ok_putf F dX5_write_7 kF_X5_13 sh_209 rfl rfl rfl (fun m_3 e_4 => ?_)
  refine ok_aload_n F dX5_write_10 0 rfl ?_
  refine ok_iload_n F dX5_write_11 2 rfl ?_
  refine ok_putf F dX5_write_12 kF_X5_16 sh_209 rfl rfl rfl (fun m_5 e_6 => ?_)
  obtain ⟨M0, hM0⟩ : ∃ x, x = m_5 := ⟨_, rfl⟩
  have e00 : M0 = mset (mset (mset mem 209 0 0) 209 1 0) 209 2 k := by rw [hM0, e_6, e_4, e_2]
  have i01 : ∀ a, a ≠ 209 → M0 a = mem a := fun a ha => by rw [e00, mset_nka ha, mset_nka ha, mset_nka ha]
  have i031 : M0 209 0 = 0 := by rw [e00, mset_ne (by decide), mset_ne (by decide), mset_eq]
  have i032 : M0 209 2 = k := by rw [e00, mset_eq]
  refine ok_aload_n F dX5_write_15 1 rfl ?_
  refine ok_getf (v := mem 21 0) F dX5_write_16 kF_X5_19 sh_21 rfl (by rw [e_6, mset_nk (by decide), e_4, mset_nk (by decide), e_2, mset_nk (by decide)] <;> rfl) ?_
  refine ok_if_ne F 23 dX5_write_19 (by decide) (by omega) (fun c_7 => ?_) (fun c_7 => ?_)
  · refine ok_aload_n F dX5_write_23 0 rfl ?_
    refine ok_ldcs (i := 0) F dX5_write_24 (List.mem_of_getElem? (i := 7) rfl) ?_
    refine ok_aload_n F dX5_write_26 1 rfl ?_
    refine ok_aload_n F dX5_write_27 1 rfl ?_
    refine ok_getr F dX5_write_28 kF_X5_25 sh_21 rfl ?_
    refine ok_callv F [pR (1000 + 0), pR 21, pR 22] dX5_write_31 kM_X5_writeRow kI_X5_writeRow kV_X5_writeRow kL_X5_29 (ci := 5) rfl sh_209 rfl (by decide) (Nat.le_of_ble_eq_true rfl) rfl (m_X5_writeRow _ 0 22 m_5 (by decide) (by rw [← hM0, i01 21 (by decide), h210]; exact g0) (sh_22) (by decide) (fun j hj => by rw [← hM0, i01 22 (by decide), show mem 22 j = f (3 + j) from q2 0 (by decide) j hj]; exact ⟨(show 0 ≤ f (3 + j) ∧ f (3 + j) ≤ 500 from g3 j hj).1, Int.le_trans (show 0 ≤ f (3 + j) ∧ f (3 + j) ≤ 500 from g3 j hj).2 (by decide)⟩) (by rw [← hM0]; omega) (by rw [← hM0, i032]; exact hk)) ?_
    rintro _ m_8 ⟨rfl, e_9⟩
    have eR1 := e_9
    rw [← hM0, i01 21 (by decide), i01 22 (by decide), h210] at eR1
    have eQ1 : rowT 0 (mem 22) 0 (f 0).toNat = rowT 0 f 3 (f 0).toNat := by
      unfold rowT
      congr 1
      refine catN_congr _ (fun j hj => ?_)
      unfold rowG
      rw [Nat.zero_add, show mem 22 j = f (3 + j) from q2 0 (by decide) j (by omega)]
    rw [eQ1] at eR1
    obtain ⟨M1, hM1⟩ : ∃ x, x = m_8 := ⟨_, rfl⟩
    rw [← hM1] at eR1
    obtain ⟨x1, x2, x3⟩ := wcE eR1
    have l1 := hl 0 (by decide) 3
    have i11 : ∀ a, a ≠ 209 → M1 a = mem a := fun a ha => by rw [x3 a ha]; exact i01 a ha
    have i131 : 0 ≤ M1 209 0 ∧ M1 209 0 ≤ 46 := by omega
    have i132 : M1 209 2 = k := by omega
    refine ok_aload_n F dX5_write_34 0 rfl ?_
    refine ok_ldcs (i := 7) F dX5_write_35 (List.mem_of_getElem? (i := 8) rfl) ?_
    refine ok_aload_n F dX5_write_37 1 rfl ?_
    refine ok_aload_n F dX5_write_38 1 rfl ?_
    refine ok_getr F dX5_write_39 kF_X5_35 sh_21 rfl ?_
    refine ok_callv F [pR (1000 + 7), pR 21, pR 23] dX5_write_42 kM_X5_writeRow kI_X5_writeRow kV_X5_writeRow kL_X5_29 (ci := 5) rfl sh_209 rfl (by decide) (Nat.le_of_ble_eq_true rfl) rfl (m_X5_writeRow _ 7 23 m_8 (by decide) (by rw [← hM1, i11 21 (by decide), h210]; exact g0) (sh_23) (by decide) (fun j hj => by rw [← hM1, i11 23 (by decide), show mem 23 j = f (11 + j) from q2 1 (by decide) j hj]; exact ⟨(show 0 ≤ f (11 + j) ∧ f (11 + j) ≤ 99 from g5 0 (by decide) j hj).1, Int.le_trans (show 0 ≤ f (11 + j) ∧ f (11 + j) ≤ 99 from g5 0 (by decide) j hj).2 (by decide)⟩) (by rw [← hM1]; omega) (by rw [← hM1, i132]; exact hk)) ?_
    rintro _ m_10 ⟨rfl, e_11⟩
    have eR2 := e_11
    rw [← hM1, i11 21 (by decide), i11 23 (by decide), h210] at eR2
    have eQ2 : rowT 7 (mem 23) 0 (f 0).toNat = rowT 7 f 11 (f 0).toNat := by
      unfold rowT
      congr 1
      refine catN_congr _ (fun j hj => ?_)
      unfold rowG
      rw [Nat.zero_add, show mem 23 j = f (11 + j) from q2 1 (by decide) j (by omega)]
    rw [eQ2] at eR2
    obtain ⟨M2, hM2⟩ : ∃ x, x = m_10 := ⟨_, rfl⟩
    rw [← hM2] at eR2
    obtain ⟨x1, x2, x3⟩ := wcE eR2
    have l2 := hl 7 (by decide) 11
    have i21 : ∀ a, a ≠ 209 → M2 a = mem a := fun a ha => by rw [x3 a ha]; exact i11 a ha
    have i231 : 0 ≤ M2 209 0 ∧ M2 209 0 ≤ 92 := by omega
    have i232 : M2 209 2 = k := by omega
    refine ok_aload_n F dX5_write_45 0 rfl ?_
    refine ok_ldcs (i := 8) F dX5_write_46 (List.mem_of_getElem? (i := 9) rfl) ?_
    refine ok_aload_n F dX5_write_48 1 rfl ?_
    refine ok_aload_n F dX5_write_49 1 rfl ?_
    refine ok_getr F dX5_write_50 kF_X5_40 sh_21 rfl ?_
    refine ok_callv F [pR (1000 + 8), pR 21, pR 24] dX5_write_53 kM_X5_writeRow kI_X5_writeRow kV_X5_writeRow kL_X5_29 (ci := 5) rfl sh_209 rfl (by decide) (Nat.le_of_ble_eq_true rfl) rfl (m_X5_writeRow _ 8 24 m_10 (by decide) (by rw [← hM2, i21 21 (by decide), h210]; exact g0) (sh_24) (by decide) (fun j hj => by rw [← hM2, i21 24 (by decide), show mem 24 j = f (19 + j) from q2 2 (by decide) j hj]; exact ⟨(show 0 ≤ f (19 + j) ∧ f (19 + j) ≤ 99 from g5 1 (by decide) j hj).1, Int.le_trans (show 0 ≤ f (19 + j) ∧ f (19 + j) ≤ 99 from g5 1 (by decide) j hj).2 (by decide)⟩) (by rw [← hM2]; omega) (by rw [← hM2, i232]; exact hk)) ?_
    rintro _ m_12 ⟨rfl, e_13⟩
    have eR3 := e_13
    rw [← hM2, i21 21 (by decide), i21 24 (by decide), h210] at eR3
    have eQ3 : rowT 8 (mem 24) 0 (f 0).toNat = rowT 8 f 19 (f 0).toNat := by
      unfold rowT
      congr 1
      refine catN_congr _ (fun j hj => ?_)
      unfold rowG
      rw [Nat.zero_add, show mem 24 j = f (19 + j) from q2 2 (by decide) j (by omega)]
    rw [eQ3] at eR3
    obtain ⟨M3, hM3⟩ : ∃ x, x = m_12 := ⟨_, rfl⟩
    rw [← hM3] at eR3
    obtain ⟨x1, x2, x3⟩ := wcE eR3
    have l3 := hl 8 (by decide) 19
    have i31 : ∀ a, a ≠ 209 → M3 a = mem a := fun a ha => by rw [x3 a ha]; exact i21 a ha
    have i331 : 0 ≤ M3 209 0 ∧ M3 209 0 ≤ 138 := by omega
    have i332 : M3 209 2 = k := by omega
    refine ok_aload_n F dX5_write_56 0 rfl ?_
    refine ok_ldcs (i := 9) F dX5_write_57 (List.mem_of_getElem? (i := 10) rfl) ?_
    refine ok_aload_n F dX5_write_59 1 rfl ?_
    refine ok_aload_n F dX5_write_60 1 rfl ?_
    refine ok_getr F dX5_write_61 kF_X5_45 sh_21 rfl ?_
    refine ok_callv F [pR (1000 + 9), pR 21, pR 25] dX5_write_64 kM_X5_writeRow kI_X5_writeRow kV_X5_writeRow kL_X5_29 (ci := 5) rfl sh_209 rfl (by decide) (Nat.le_of_ble_eq_true rfl) rfl (m_X5_writeRow _ 9 25 m_12 (by decide) (by rw [← hM3, i31 21 (by decide), h210]; exact g0) (sh_25) (by decide) (fun j hj => by rw [← hM3, i31 25 (by decide), show mem 25 j = f (27 + j) from q2 3 (by decide) j hj]; exact ⟨(show 0 ≤ f (27 + j) ∧ f (27 + j) ≤ 99 from g5 2 (by decide) j hj).1, Int.le_trans (show 0 ≤ f (27 + j) ∧ f (27 + j) ≤ 99 from g5 2 (by decide) j hj).2 (by decide)⟩) (by rw [← hM3]; omega) (by rw [← hM3, i332]; exact hk)) ?_
    rintro _ m_14 ⟨rfl, e_15⟩
    have eR4 := e_15
    rw [← hM3, i31 21 (by decide), i31 25 (by decide), h210] at eR4
    have eQ4 : rowT 9 (mem 25) 0 (f 0).toNat = rowT 9 f 27 (f 0).toNat := by
      unfold rowT
      congr 1
      refine catN_congr _ (fun j hj => ?_)
      unfold rowG
      rw [Nat.zero_add, show mem 25 j = f (27 + j) from q2 3 (by decide) j (by omega)]
    rw [eQ4] at eR4
    obtain ⟨M4, hM4⟩ : ∃ x, x = m_14 := ⟨_, rfl⟩
    rw [← hM4] at eR4
    obtain ⟨x1, x2, x3⟩ := wcE eR4
    have l4 := hl 9 (by decide) 27
    have i41 : ∀ a, a ≠ 209 → M4 a = mem a := fun a ha => by rw [x3 a ha]; exact i31 a ha
    have i431 : 0 ≤ M4 209 0 ∧ M4 209 0 ≤ 184 := by omega
    have i432 : M4 209 2 = k := by omega
    refine ok_aload_n F dX5_write_67 0 rfl ?_
    refine ok_ldcs (i := 10) F dX5_write_68 (List.mem_of_getElem? (i := 11) rfl) ?_
    refine ok_aload_n F dX5_write_70 1 rfl ?_
    refine ok_aload_n F dX5_write_71 1 rfl ?_
    refine ok_getr F dX5_write_72 kF_X5_50 sh_21 rfl ?_
    refine ok_callv F [pR (1000 + 10), pR 21, pR 26] dX5_write_75 kM_X5_writeRow kI_X5_writeRow kV_X5_writeRow kL_X5_29 (ci := 5) rfl sh_209 rfl (by decide) (Nat.le_of_ble_eq_true rfl) rfl (m_X5_writeRow _ 10 26 m_14 (by decide) (by rw [← hM4, i41 21 (by decide), h210]; exact g0) (sh_26) (by decide) (fun j hj => by rw [← hM4, i41 26 (by decide), show mem 26 j = f (35 + j) from q2 4 (by decide) j hj]; exact ⟨(show 0 ≤ f (35 + j) ∧ f (35 + j) ≤ 99 from g5 3 (by decide) j hj).1, Int.le_trans (show 0 ≤ f (35 + j) ∧ f (35 + j) ≤ 99 from g5 3 (by decide) j hj).2 (by decide)⟩) (by rw [← hM4]; omega) (by rw [← hM4, i432]; exact hk)) ?_
    rintro _ m_16 ⟨rfl, e_17⟩
    have eR5 := e_17
    rw [← hM4, i41 21 (by decide), i41 26 (by decide), h210] at eR5
    have eQ5 : rowT 10 (mem 26) 0 (f 0).toNat = rowT 10 f 35 (f 0).toNat := by
      unfold rowT
      congr 1
      refine catN_congr _ (fun j hj => ?_)
      unfold rowG
      rw [Nat.zero_add, show mem 26 j = f (35 + j) from q2 4 (by decide) j (by omega)]
    rw [eQ5] at eR5
    obtain ⟨M5, hM5⟩ : ∃ x, x = m_16 := ⟨_, rfl⟩
    rw [← hM5] at eR5
    obtain ⟨x1, x2, x3⟩ := wcE eR5
    have l5 := hl 10 (by decide) 35
    have i51 : ∀ a, a ≠ 209 → M5 a = mem a := fun a ha => by rw [x3 a ha]; exact i41 a ha
    have i531 : 0 ≤ M5 209 0 ∧ M5 209 0 ≤ 230 := by omega
    have i532 : M5 209 2 = k := by omega
    refine ok_iconst F dX5_write_78 ?_
    refine ok_istore_n (lv' := [(3, pI 0), (0, pR 209), (1, pR 21), (2, pI k)]) F dX5_write_79 (by decide) rfl ?_
    have hL_80 : ∀ (n_80 : Nat) (d : Int) (m : Mem), (0 ≤ d ∧ d ≤ f 1 ∧ m = wcM (catN (dayG f) d.toNat) M5) → (f 1 - d).toNat = n_80 → Ok shp X 7 80 [(0, pR 209), (1, pR 21), (2, pI k), (3, pI d)] [] m := by
      intro n_80
      induction n_80 using Nat.strongRecOn with
      | _ n_80 ih_80 =>
        intro d m hI_80 hn_80
        obtain ⟨hd0, hd1, hE⟩ := hI_80
        obtain ⟨x1, x2, x3⟩ := wcE hE
        have xl := catN_len (g := dayG f) (B := 160006) d.toNat (fun j hj => dayG_len (by omega) (by omega) (fun s hs k hk => by have := (g7 s (by omega)).2.2.1 k hk; unfold sGiven at this; rw [show 61 + 10 * s + k = 59 + 10 * s + 2 + k by omega] at this; omega))
        have hma : ∀ a, a ≠ 209 → m a = mem a := fun a ha => by rw [x3 a ha]; exact i51 a ha
        have h1 := hma 21 (by decide)
        have q1b : mem 21 1 = f 1 := q1
        refine ok_iload_n F dX5_write_80 3 rfl ?_
        refine ok_aload_n F dX5_write_81 1 rfl ?_
        refine ok_getf (v := mem 21 1) F dX5_write_82 kF_X5_53 sh_21 rfl (by rw [h1] <;> rfl) ?_
        refine ok_icmp_ge F 140 dX5_write_85 (by decide) (by omega) (by omega) (fun c_18 => ?_) (fun c_18 => ?_)
        · refine ok_vret F G dX5_write_140 ?_
          refine ⟨rfl, ?_⟩
          rw [hE, show d = f 1 by omega, eR5, eR4, eR3, eR2, eR1, e00]
          unfold allT
          rw [if_neg (by omega), wcM_app, wcM_app, wcM_app, wcM_app, wcM_app]
        · refine ok_aload_n F dX5_write_88 0 rfl ?_
          refine ok_ldcs (i := 11) F dX5_write_89 (List.mem_of_getElem? (i := 12) rfl) ?_
          refine ok_callv F [pR (1000 + 11)] dX5_write_91 kM_X5_writeText kI_X5_writeText kV_X5_writeText kL_X5_58 (ci := 5) rfl sh_209 rfl (by decide) (Nat.le_of_ble_eq_true rfl) rfl (m_X5_writeText _ 11 m (by decide) (by omega) (by omega)) ?_
          rintro _ m_19 ⟨rfl, e_20⟩
          have et := e_20
          obtain ⟨t1, t2, t3⟩ := wcE e_20
          have tl := strT_len (w := 11) (by decide)
          obtain ⟨mD, hmD⟩ : ∃ x, x = m_19 := ⟨_, rfl⟩
          have d1 : ∀ a, a ≠ 209 → mD a = mem a := fun a ha => by rw [hmD, t3 a ha]; exact hma a ha
          have d31 : 0 ≤ mD 209 0 ∧ mD 209 0 ≤ m 209 0 + 6 := by rw [hmD]; omega
          have d32 : mD 209 2 = k := by rw [hmD]; omega
          have et2 : mD = wcM (strT 11) m := by rw [hmD]; exact et
          have hRSd : RS m_19 21 f := hRS.congr (fun c c1 c2 => by rw [← hmD]; exact d1 c (by omega))
          have efst : fstD (m_19 29) d = dayA f d := hRSd.fst hG (by omega)
          have d211 : m_19 21 1 = f 1 := hRSd.2.1
          have ensa : nsaD (m_19 29) (m_19 21 1) d = dayC f d := by rw [d211]; exact hRSd.nsa hG (by omega)
          obtain ⟨y1, y2, y3, y4⟩ := day_iff hG hd0
          refine ok_aload_n F dX5_write_94 1 rfl ?_
          refine ok_iload_n F dX5_write_95 3 rfl ?_
          refine ok_callv F [pI d] dX5_write_96 kM_X6_firstSale kI_X6_firstSale kV_X6_firstSale kL_X5_62 (ci := 6) rfl sh_21 rfl (by decide) (Nat.le_of_ble_eq_true rfl) rfl (m_X6_firstSale_21 _ d m_19 (by omega)) ?_
          rintro _ _ ⟨rfl, rfl⟩
          refine ok_istore (lv' := [(4, pI (fstD (m_19 29) d)), (0, pR 209), (1, pR 21), (2, pI k), (3, pI d)]) F dX5_write_99 (by decide) rfl ?_
          refine ok_aload_n F dX5_write_101 2 rfl ?_
          refine ok_iload_n F dX5_write_102 4 rfl ?_
          refine ok_callv F [pI d] dX5_write_103 kM_X6_salesOf kI_X6_salesOf kV_X6_salesOf kL_X5_66 (ci := 6) rfl sh_21 rfl (by decide) (Nat.le_of_ble_eq_true rfl) rfl (m_X6_salesOf_21 _ d m_19 (by omega) (by rw [d211]; exact g1)) ?_
          rintro _ _ ⟨rfl, rfl⟩
          refine ok_istore (lv' := [(5, pI (nsaD (m_19 29) (m_19 21 1) d)), (4, pI (fstD (m_19 29) d)), (0, pR 209), (1, pR 21), (2, pI k), (3, pI d)]) F dX5_write_106 (by decide) rfl ?_
          refine ok_iconst F dX5_write_108 ?_
          refine ok_istore (lv' := [(6, pI 0), (5, pI (nsaD (m_19 29) (m_19 21 1) d)), (4, pI (fstD (m_19 29) d)), (0, pR 209), (1, pR 21), (2, pI k), (3, pI d)]) F dX5_write_109 (by decide) rfl ?_
          have hL_111 : ∀ (n_111 : Nat) (i : Int) (m2 : Mem), (0 ≤ i ∧ i ≤ dayC f d ∧ m2 = wcM (catN (fun i => saleT f (59 + 10 * ((dayA f d).toNat + i)) (f 0).toNat) i.toNat) mD) → (dayC f d - i).toNat = n_111 → Ok shp X 7 111 [(0, pR 209), (1, pR 21), (2, pI k), (3, pI d), (4, pI (fstD (m_19 29) d)), (5, pI (nsaD (m_19 29) (m_19 21 1) d)), (6, pI i)] [] m2 := by
            intro n_111
            induction n_111 using Nat.strongRecOn with
            | _ n_111 ih_111 =>
              intro i m2 hI_111 hn_111
              obtain ⟨hs0, hs1, hE2⟩ := hI_111
              obtain ⟨v1, v2, v3⟩ := wcE hE2
              have vl := catN_len (g := fun i => saleT f (59 + 10 * ((dayA f d).toNat + i)) (f 0).toNat) (B := 4000) i.toNat (fun j hj => saleT_len (by omega) (fun k hk => by have := (g7 ((dayA f d).toNat + j) (by omega)).2.2.1 k hk; unfold sGiven at this; rw [show 61 + 10 * ((dayA f d).toNat + j) + k = 59 + 10 * ((dayA f d).toNat + j) + 2 + k by omega] at this; omega))
              refine ok_iload F dX5_write_111 6 rfl ?_
              refine ok_iload F dX5_write_113 5 rfl ?_
              refine ok_icmp_ge F 134 dX5_write_115 (by decide) (by omega) (by omega) (fun c_21 => ?_) (fun c_21 => ?_)
              · refine ok_iinc (lv' := [(3, pI (d + 1)), (0, pR 209), (1, pR 21), (2, pI k), (4, pI (fstD (m_19 29) d)), (5, pI (nsaD (m_19 29) (m_19 21 1) d)), (6, pI i)]) F dX5_write_134 3 rfl (by decide) rfl ?_
                refine ok_goto F 80 dX5_write_137 (by decide) ?_
                refine ok_lvp [1, 2, 3, 0] (lv' := [(0, pR 209), (1, pR 21), (2, pI k), (3, pI (d + 1))]) rfl ?_
                refine ih_80 _ ?_ (d + 1) m2 ?_ rfl
                · omega
                · refine ⟨by omega, by omega, ?_⟩
                  rw [hE2, et2, hE, show (d + 1).toNat = d.toNat + 1 by omega, catN_s, wcM_app _ (dayG f d.toNat), dayG_blk hG hd0, wcM_app, show i.toNat = (dayC f d).toNat by omega]
              · refine ok_aload_n F dX5_write_118 0 rfl ?_
                refine ok_aload_n F dX5_write_119 1 rfl ?_
                refine ok_iload F dX5_write_120 4 rfl ?_
                refine ok_iload F dX5_write_122 6 rfl ?_
                refine ok_iadd F dX5_write_124 ?_
                refine ok_callv F [pR 21, pI ((fstD (m_19 29) d) + i)] dX5_write_125 kM_X5_writeSale kI_X5_writeSale kV_X5_writeSale kL_X5_69 (ci := 5) rfl sh_209 rfl (by decide) (Nat.le_of_ble_eq_true rfl) rfl (m_X5_writeSale _ f ((fstD (m_19 29) d) + i) m2 (hRS.congr (fun c c1 c2 => by rw [v3 c (by omega)]; exact d1 c (by omega))) (hG) (by omega) (by omega) (by omega)) ?_
                rintro _ m_22 ⟨rfl, e_23⟩
                have ew := e_23
                rw [efst, show (dayA f d + i).toNat = (dayA f d).toNat + i.toNat by omega, saleC_eq hG (by omega)] at ew
                refine ok_iinc (lv' := [(6, pI (i + 1)), (0, pR 209), (1, pR 21), (2, pI k), (3, pI d), (4, pI (fstD (m_19 29) d)), (5, pI (nsaD (m_19 29) (m_19 21 1) d))]) F dX5_write_128 6 rfl (by decide) rfl ?_
                refine ok_goto F 111 dX5_write_131 (by decide) ?_
                refine ok_lvp [1, 2, 3, 4, 5, 6, 0] (lv' := [(0, pR 209), (1, pR 21), (2, pI k), (3, pI d), (4, pI (fstD (m_19 29) d)), (5, pI (nsaD (m_19 29) (m_19 21 1) d)), (6, pI (i + 1))]) rfl ?_
                refine ih_111 _ ?_ (i + 1) m_22 ?_ rfl
                · omega
                · refine ⟨by omega, by omega, ?_⟩
                  rw [ew, hE2, show (i + 1).toNat = i.toNat + 1 by omega, catN_s, wcM_app _ (saleT _ _ _)]
          refine ok_lvp [3, 4, 5, 6, 2, 1, 0] (lv' := [(0, pR 209), (1, pR 21), (2, pI k), (3, pI d), (4, pI (fstD (m_19 29) d)), (5, pI (nsaD (m_19 29) (m_19 21 1) d)), (6, pI 0)]) rfl ?_
          refine hL_111 _ 0 m_19 ?_ rfl
          exact ⟨by omega, by omega, hmD.symm⟩
    refine ok_lvp [1, 2, 3, 0] (lv' := [(0, pR 209), (1, pR 21), (2, pI k), (3, pI 0)]) rfl ?_
    refine hL_80 _ 0 m_16 ?_ rfl
    exact ⟨by omega, by omega, hM5.symm⟩
  · refine ok_vret F G dX5_write_22 ?_
    refine ⟨rfl, ?_⟩
    unfold allT
    rw [if_pos (by omega), e_6, e_4, e_2]; rfl
theorem dX7_letter_0 : decode cX7_letter 0 = .ok (.iload_n 1, 1) := by decide +kernel
theorem dX7_letter_1 : decode cX7_letter 1 = .ok (.iconst (-1), 1) := by decide +kernel
theorem dX7_letter_2 : decode cX7_letter 2 = .ok (.if_icmp .ge 5, 3) := by decide +kernel
theorem dX7_letter_5 : decode cX7_letter 5 = .ok (.iconst (-1), 1) := by decide +kernel
theorem dX7_letter_6 : decode cX7_letter 6 = .ok (.ireturn, 1) := by decide +kernel
theorem dX7_letter_7 : decode cX7_letter 7 = .ok (.aload_n 0, 1) := by decide +kernel
theorem dX7_letter_8 : decode cX7_letter 8 = .ok (.getfield 77, 3) := by decide +kernel
theorem dX7_letter_11 : decode cX7_letter 11 = .ok (.aload_n 0, 1) := by decide +kernel
theorem dX7_letter_12 : decode cX7_letter 12 = .ok (.getfield 10, 3) := by decide +kernel
theorem dX7_letter_15 : decode cX7_letter 15 = .ok (.iload_n 1, 1) := by decide +kernel
theorem dX7_letter_16 : decode cX7_letter 16 = .ok (.invokevirtual 233, 3) := by decide +kernel
theorem dX7_letter_19 : decode cX7_letter 19 = .ok (.iload_n 1, 1) := by decide +kernel
theorem dX7_letter_20 : decode cX7_letter 20 = .ok (.iconst (-1), 1) := by decide +kernel
theorem dX7_letter_21 : decode cX7_letter 21 = .ok (.if_icmp .ne 11, 3) := by decide +kernel
theorem dX7_letter_24 : decode cX7_letter 24 = .ok (.aload_n 0, 1) := by decide +kernel
theorem dX7_letter_25 : decode cX7_letter 25 = .ok (.getfield 77, 3) := by decide +kernel
theorem dX7_letter_28 : decode cX7_letter 28 = .ok (.getfield 237, 3) := by decide +kernel
theorem dX7_letter_31 : decode cX7_letter 31 = .ok (.ireturn, 1) := by decide +kernel
theorem dX7_letter_32 : decode cX7_letter 32 = .ok (.iload_n 1, 1) := by decide +kernel
theorem dX7_letter_33 : decode cX7_letter 33 = .ok (.aload_n 0, 1) := by decide +kernel
theorem dX7_letter_34 : decode cX7_letter 34 = .ok (.getfield 77, 3) := by decide +kernel
theorem dX7_letter_37 : decode cX7_letter 37 = .ok (.getfield 237, 3) := by decide +kernel
theorem dX7_letter_40 : decode cX7_letter 40 = .ok (.if_icmp .ge 13, 3) := by decide +kernel
theorem dX7_letter_43 : decode cX7_letter 43 = .ok (.aload_n 0, 1) := by decide +kernel
theorem dX7_letter_44 : decode cX7_letter 44 = .ok (.getfield 77, 3) := by decide +kernel
theorem dX7_letter_47 : decode cX7_letter 47 = .ok (.getfield 240, 3) := by decide +kernel
theorem dX7_letter_50 : decode cX7_letter 50 = .ok (.goto 5, 3) := by decide +kernel
theorem dX7_letter_53 : decode cX7_letter 53 = .ok (.bipush (-2), 2) := by decide +kernel
theorem dX7_letter_55 : decode cX7_letter 55 = .ok (.ireturn, 1) := by decide +kernel
set_option maxHeartbeats 4000000 in
set_option maxRecDepth 100000 in
theorem m_X7_letter (l : Launch) (f : Nat → Int) (k : Int) (mem : Mem) (hRS : RS mem 21 f) (hG : GR f) (hk : i32 k) : Ret shp l yX7_letter cX7_letter 2 (some .int) 7 [pR 20, pI k] mem (fun rv mv => rv = some (pI (if k < -1 then -1 else letA (allT f) k)) ∧ mv = if k < -1 then mem else wcM (allT f) (mset (mset (mset mem 209 0 0) 209 1 0) 209 2 k)) := by
  refine ret_of (by decide +kernel) (Nat.le_of_ble_eq_true rfl) (fun X hX F G => ?_)
  show Ok shp X 2 0 [(0, pR 20), (1, pI k)] [] mem
  obtain ⟨g0, g1, g2, g3, g4, g5, g6, g7, g8, g9⟩ := id hG
  refine ok_iload_n F dX7_letter_0 1 rfl ?_
  refine ok_iconst F dX7_letter_1 ?_
  refine ok_icmp_ge F 7 dX7_letter_2 (by decide) (by omega) (by omega) (fun c_1 => ?_) (fun c_1 => ?_)
  · refine ok_aload_n F dX7_letter_7 0 rfl ?_
    refine ok_getr F dX7_letter_8 kF_X7_77 sh_20 rfl ?_
    refine ok_aload_n F dX7_letter_11 0 rfl ?_
    refine ok_getr F dX7_letter_12 kF_X7_10 sh_20 rfl ?_
    refine ok_iload_n F dX7_letter_15 1 rfl ?_
    refine ok_callv F [pR 21, pI k] dX7_letter_16 kM_X5_write kI_X5_write kV_X5_write kL_X7_233 (ci := 5) rfl sh_209 rfl (by decide) (Nat.le_of_ble_eq_true rfl) rfl (m_X5_write _ f k mem (hRS) (hG) (hk)) ?_
    rintro _ m_2 ⟨rfl, e_3⟩
    have eW := e_3
    obtain ⟨w1, w2, w3⟩ := wcE eW
    have w4 := wcM_found (allT f) (mset (mset (mset mem 209 0 0) 209 1 0) 209 2 k) k (by rw [mset_eq])
    have e20 : mset (mset (mset mem 209 0 0) 209 1 0) 209 2 k 209 0 = 0 := by rw [mset_ne (by decide), mset_ne (by decide), mset_eq]
    rw [← eW, e20] at w4
    rw [e20] at w1
    have hL := allT_len (f := f) g0.2 g1.2 g2.2 (fun s hs j hj => by have := (g7 s (by omega)).2.2.1 j hj; unfold sGiven at this; rw [show 61 + 10 * s + j = 59 + 10 * s + 2 + j by omega] at this; omega)
    refine ok_iload_n F dX7_letter_19 1 rfl ?_
    refine ok_iconst F dX7_letter_20 ?_
    refine ok_icmp_ne F 32 dX7_letter_21 (by decide) (by omega) (by omega) (fun c_4 => ?_) (fun c_4 => ?_)
    · refine ok_iload_n F dX7_letter_32 1 rfl ?_
      refine ok_aload_n F dX7_letter_33 0 rfl ?_
      refine ok_getr F dX7_letter_34 kF_X7_77 sh_20 rfl ?_
      refine ok_getf (v := m_2 209 0) F dX7_letter_37 kF_X7_237 sh_209 rfl rfl ?_
      refine ok_icmp_ge F 53 dX7_letter_40 (by decide) (by omega) (by omega) (fun c_5 => ?_) (fun c_5 => ?_)
      · refine ok_bipush F dX7_letter_53 rfl ?_
        refine ok_iret F G dX7_letter_55 ?_
        refine ⟨?_, by rw [if_neg (by omega)]; exact eW⟩
        rw [if_neg (by omega)]
        unfold letA
        first
          | (rw [if_pos (by omega), w1, Int.zero_add]; done)
          | (rw [if_neg (by omega), if_pos (by omega), w4, if_pos (by omega), Int.sub_zero]; done)
          | (rw [if_neg (by omega), if_neg (by omega)]; done)
      · refine ok_aload_n F dX7_letter_43 0 rfl ?_
        refine ok_getr F dX7_letter_44 kF_X7_77 sh_20 rfl ?_
        refine ok_getf (v := m_2 209 1) F dX7_letter_47 kF_X7_240 sh_209 rfl rfl ?_
        refine ok_goto F 55 dX7_letter_50 (by decide) ?_
        refine ok_iret F G dX7_letter_55 ?_
        refine ⟨?_, by rw [if_neg (by omega)]; exact eW⟩
        rw [if_neg (by omega)]
        unfold letA
        first
          | (rw [if_pos (by omega), w1, Int.zero_add]; done)
          | (rw [if_neg (by omega), if_pos (by omega), w4, if_pos (by omega), Int.sub_zero]; done)
          | (rw [if_neg (by omega), if_neg (by omega)]; done)
    · refine ok_aload_n F dX7_letter_24 0 rfl ?_
      refine ok_getr F dX7_letter_25 kF_X7_77 sh_20 rfl ?_
      refine ok_getf (v := m_2 209 0) F dX7_letter_28 kF_X7_237 sh_209 rfl rfl ?_
      refine ok_iret F G dX7_letter_31 ?_
      refine ⟨?_, by rw [if_neg (by omega)]; exact eW⟩
      rw [if_neg (by omega)]
      unfold letA
      first
        | (rw [if_pos (by omega), w1, Int.zero_add]; done)
        | (rw [if_neg (by omega), if_pos (by omega), w4, if_pos (by omega), Int.sub_zero]; done)
        | (rw [if_neg (by omega), if_neg (by omega)]; done)
  · refine ok_iconst F dX7_letter_5 ?_
    refine ok_iret F G dX7_letter_6 ?_
    exact ⟨by rw [if_pos (by omega)], by rw [if_pos (by omega)]⟩
