/-! the letter: a sale, all of it -/
def cntF (f : Nat → Int) (p k : Nat) : Nat := (f (p + 2 + k)).toNat
def cnB (f : Nat → Int) (p : Nat) : Nat → Nat
  | 0 => 0
  | k + 1 => cnB f p k + cntF f p k
theorem cnB_s (f : Nat → Int) (p k : Nat) : cnB f p (k + 1) = cnB f p k + cntF f p k := rfl
def pcG (f : Nat → Int) (p k j : Nat) : List Int := (if cnB f p k + j = 0 then [] else [32]) ++ digN 3 (f (3 + k))
def kindG (f : Nat → Int) (p k : Nat) : List Int := catN (pcG f p k) (cntF f p k)
def saleT (f : Nat → Int) (p n : Nat) : List Int := strT 12 ++ (digN 3 (f (p + 1)) ++ ([58] ++ catN (kindG f p) n))
def daySG (f : Nat → Int) (n d s : Nat) : List Int := if f (59 + 10 * s) = (d : Int) then saleT f (59 + 10 * s) n else []
def dayG (f : Nat → Int) (d : Nat) : List Int := strT 11 ++ catN (daySG f (f 0).toNat d) (f 2).toNat
def allT (f : Nat → Int) : List Int := if f 0 = 0 then [] else rowT 0 f 3 (f 0).toNat ++ (rowT 7 f 11 (f 0).toNat ++ (rowT 8 f 19 (f 0).toNat ++ (rowT 9 f 27 (f 0).toNat ++ (rowT 10 f 35 (f 0).toNat ++ catN (dayG f) (f 1).toNat))))
def letA (L : List Int) (k : Int) : Int := if k = -1 then (L.length : Int) else if k < (L.length : Int) then L.getD k.toNat 0 else -2
theorem pcG_len (f : Nat → Int) (p k j : Nat) : (pcG f p k j).length ≤ 5 := by
  have := digN_len 3 (f (3 + k))
  unfold pcG
  rw [List.length_append]
  have e : (if cnB f p k + j = 0 then ([] : List Int) else [32]).length ≤ 1 := by
    by_cases g : cnB f p k + j = 0
    · rw [if_pos g]; exact Nat.zero_le _
    · rw [if_neg g]; exact Nat.le_refl _
  omega
theorem kindG_len {f : Nat → Int} {p k : Nat} (h : f (p + 2 + k) ≤ 99) : (kindG f p k).length ≤ 495 := by
  have a := catN_len (g := pcG f p k) (B := 5) (cntF f p k) (fun j _ => pcG_len f p k j)
  have b : cntF f p k = (f (p + 2 + k)).toNat := rfl
  unfold kindG
  omega
theorem saleT_len {f : Nat → Int} {p n : Nat} (hn : n ≤ 8) (h : ∀ k : Nat, k < 8 → f (p + 2 + k) ≤ 99) : (saleT f p n).length ≤ 4000 := by
  have a := catN_len (g := kindG f p) (B := 495) n (fun j hj => kindG_len (h j (by omega)))
  have b := digN_len 3 (f (p + 1))
  have c := strT_len (w := 12) (by decide)
  unfold saleT
  rw [List.length_append, List.length_append, List.length_append]
  have e : ([58] : List Int).length = 1 := rfl
  omega
theorem daySG_len {f : Nat → Int} {n d s : Nat} (hn : n ≤ 8) (h : ∀ k : Nat, k < 8 → f (59 + 10 * s + 2 + k) ≤ 99) : (daySG f n d s).length ≤ 4000 := by
  unfold daySG
  by_cases g : f (59 + 10 * s) = (d : Int)
  · rw [if_pos g]; exact saleT_len hn h
  · rw [if_neg g]; exact Nat.zero_le _
theorem dayG_len {f : Nat → Int} {d : Nat} (hn : (f 0).toNat ≤ 8) (hs : (f 2).toNat ≤ 40) (h : ∀ s : Nat, s < (f 2).toNat → ∀ k : Nat, k < 8 → f (59 + 10 * s + 2 + k) ≤ 99) : (dayG f d).length ≤ 160006 := by
  have a := catN_len (g := daySG f (f 0).toNat d) (B := 4000) (f 2).toNat (fun j hj => daySG_len hn (h j (by omega)))
  have c := strT_len (w := 11) (by decide)
  unfold dayG
  rw [List.length_append]
  omega
theorem allT_len {f : Nat → Int} (hn : f 0 ≤ 8) (hd : f 1 ≤ 5) (hs : f 2 ≤ 40) (h : ∀ s : Nat, s < (f 2).toNat → ∀ k : Nat, k < 8 → f (59 + 10 * s + 2 + k) ≤ 99) : (allT f).length ≤ 1000000 := by
  have hl := fun w (hw : w < 13) (s : Nat) => (show (rowT w f s (f 0).toNat).length ≤ 46 from by
    have a := catN_len (g := rowG f s) (B := 5) (f 0).toNat (fun j _ => rowG_len _ _ j)
    have b := strT_len hw
    unfold rowT
    rw [List.length_append]
    omega)
  have l1 := hl 0 (by decide) 3
  have l2 := hl 7 (by decide) 11
  have l3 := hl 8 (by decide) 19
  have l4 := hl 9 (by decide) 27
  have l5 := hl 10 (by decide) 35
  have a := catN_len (g := dayG f) (B := 160006) (f 1).toNat (fun j hj => dayG_len (by omega) (by omega) h)
  unfold allT
  by_cases g : f 0 = 0
  · rw [if_pos g]; exact Nat.zero_le _
  · rw [if_neg g, List.length_append, List.length_append, List.length_append, List.length_append, List.length_append]
    omega
theorem wrM_found : ∀ (L : List Int) (m : Mem) (k : Int), m 0 32 = k → wrM L m 0 33 = if m 0 31 ≤ k ∧ k < m 0 31 + (L.length : Int) then L.getD (k - m 0 31).toNat 0 else m 0 33
  | [], m, k, h => by
    rw [if_neg (by rw [List.length_nil]; omega)]
    rfl
  | c :: L, m, k, h => by
    obtain ⟨a1, a2, _⟩ := wr1_at m c
    have r := wrM_found L (wr1 m c) k (by rw [a2 32 (by decide) (by decide)]; exact h)
    rw [wrM_c, r, a1, List.length_cons]
    have e33 : wr1 m c 0 33 = if m 0 31 = m 0 32 then c else m 0 33 := by
      unfold wr1
      rw [mset_ne (by decide)]
      by_cases g : m 0 31 = m 0 32
      · rw [if_pos g, if_pos g, mset_eq]
      · rw [if_neg g, if_neg g]
    by_cases g : m 0 31 + 1 ≤ k ∧ k < m 0 31 + 1 + (L.length : Int)
    · rw [if_pos g, if_pos (by omega), show (k - m 0 31).toNat = (k - (m 0 31 + 1)).toNat + 1 by omega]
      rfl
    · rw [if_neg g, e33]
      by_cases y : m 0 31 = m 0 32
      · rw [if_pos y, if_pos (by omega), show (k - m 0 31).toNat = 0 by omega]
        rfl
      · rw [if_neg y, if_neg (by omega)]
theorem wrE {m mv : Mem} {L : List Int} (h : mv = wrM L m) : mv 0 31 = m 0 31 + (L.length : Int) ∧ mv 0 32 = m 0 32 ∧ ∀ a, a ≠ 0 → mv a = m a := by
  subst h
  obtain ⟨a1, a2, a3⟩ := wrM_at L m
  exact ⟨a1, a2 32 (by decide) (by decide), a3⟩
theorem w1E {m mv : Mem} {c : Int} (h : mv = wr1 m c) : mv 0 31 = m 0 31 + 1 ∧ mv 0 32 = m 0 32 ∧ ∀ a, a ≠ 0 → mv a = m a := by
  subst h
  obtain ⟨a1, a2, a3⟩ := wr1_at m c
  exact ⟨a1, a2 32 (by decide) (by decide), a3⟩
theorem dX8_writesSale_0 : decode cX8_writesSale 0 = .ok (.aload_n 0, 1) := by decide +kernel
theorem dX8_writesSale_1 : decode cX8_writesSale 1 = .ok (.ldc_w 371, 3) := by decide +kernel
theorem dX8_writesSale_4 : decode cX8_writesSale 4 = .ok (.invokevirtual 368, 3) := by decide +kernel
theorem dX8_writesSale_7 : decode cX8_writesSale 7 = .ok (.aload_n 0, 1) := by decide +kernel
theorem dX8_writesSale_8 : decode cX8_writesSale 8 = .ok (.aload_n 0, 1) := by decide +kernel
theorem dX8_writesSale_9 : decode cX8_writesSale 9 = .ok (.getfield 9, 3) := by decide +kernel
theorem dX8_writesSale_12 : decode cX8_writesSale 12 = .ok (.iload_n 1, 1) := by decide +kernel
theorem dX8_writesSale_13 : decode cX8_writesSale 13 = .ok (.iconst 1, 1) := by decide +kernel
theorem dX8_writesSale_14 : decode cX8_writesSale 14 = .ok (.iadd, 1) := by decide +kernel
theorem dX8_writesSale_15 : decode cX8_writesSale 15 = .ok (.iaload, 1) := by decide +kernel
theorem dX8_writesSale_16 : decode cX8_writesSale 16 = .ok (.invokevirtual 365, 3) := by decide +kernel
theorem dX8_writesSale_19 : decode cX8_writesSale 19 = .ok (.aload_n 0, 1) := by decide +kernel
theorem dX8_writesSale_20 : decode cX8_writesSale 20 = .ok (.bipush 58, 2) := by decide +kernel
theorem dX8_writesSale_22 : decode cX8_writesSale 22 = .ok (.invokevirtual 362, 3) := by decide +kernel
theorem dX8_writesSale_25 : decode cX8_writesSale 25 = .ok (.iconst 1, 1) := by decide +kernel
theorem dX8_writesSale_26 : decode cX8_writesSale 26 = .ok (.istore_n 2, 1) := by decide +kernel
theorem dX8_writesSale_27 : decode cX8_writesSale 27 = .ok (.iconst 0, 1) := by decide +kernel
theorem dX8_writesSale_28 : decode cX8_writesSale 28 = .ok (.istore_n 3, 1) := by decide +kernel
theorem dX8_writesSale_29 : decode cX8_writesSale 29 = .ok (.iload_n 3, 1) := by decide +kernel
theorem dX8_writesSale_30 : decode cX8_writesSale 30 = .ok (.aload_n 0, 1) := by decide +kernel
theorem dX8_writesSale_31 : decode cX8_writesSale 31 = .ok (.getfield 9, 3) := by decide +kernel
theorem dX8_writesSale_34 : decode cX8_writesSale 34 = .ok (.iconst 0, 1) := by decide +kernel
theorem dX8_writesSale_35 : decode cX8_writesSale 35 = .ok (.iaload, 1) := by decide +kernel
theorem dX8_writesSale_36 : decode cX8_writesSale 36 = .ok (.if_icmp .ge 54, 3) := by decide +kernel
theorem dX8_writesSale_39 : decode cX8_writesSale 39 = .ok (.iconst 0, 1) := by decide +kernel
theorem dX8_writesSale_40 : decode cX8_writesSale 40 = .ok (.istore 4, 2) := by decide +kernel
theorem dX8_writesSale_42 : decode cX8_writesSale 42 = .ok (.iload 4, 2) := by decide +kernel
theorem dX8_writesSale_44 : decode cX8_writesSale 44 = .ok (.aload_n 0, 1) := by decide +kernel
theorem dX8_writesSale_45 : decode cX8_writesSale 45 = .ok (.getfield 9, 3) := by decide +kernel
theorem dX8_writesSale_48 : decode cX8_writesSale 48 = .ok (.iload_n 1, 1) := by decide +kernel
theorem dX8_writesSale_49 : decode cX8_writesSale 49 = .ok (.iconst 2, 1) := by decide +kernel
theorem dX8_writesSale_50 : decode cX8_writesSale 50 = .ok (.iadd, 1) := by decide +kernel
theorem dX8_writesSale_51 : decode cX8_writesSale 51 = .ok (.iload_n 3, 1) := by decide +kernel
theorem dX8_writesSale_52 : decode cX8_writesSale 52 = .ok (.iadd, 1) := by decide +kernel
theorem dX8_writesSale_53 : decode cX8_writesSale 53 = .ok (.iaload, 1) := by decide +kernel
theorem dX8_writesSale_54 : decode cX8_writesSale 54 = .ok (.if_icmp .ge 30, 3) := by decide +kernel
theorem dX8_writesSale_57 : decode cX8_writesSale 57 = .ok (.iload_n 2, 1) := by decide +kernel
theorem dX8_writesSale_58 : decode cX8_writesSale 58 = .ok (.ifCond .ne 9, 3) := by decide +kernel
theorem dX8_writesSale_61 : decode cX8_writesSale 61 = .ok (.aload_n 0, 1) := by decide +kernel
theorem dX8_writesSale_62 : decode cX8_writesSale 62 = .ok (.bipush 32, 2) := by decide +kernel
theorem dX8_writesSale_64 : decode cX8_writesSale 64 = .ok (.invokevirtual 362, 3) := by decide +kernel
theorem dX8_writesSale_67 : decode cX8_writesSale 67 = .ok (.aload_n 0, 1) := by decide +kernel
theorem dX8_writesSale_68 : decode cX8_writesSale 68 = .ok (.aload_n 0, 1) := by decide +kernel
theorem dX8_writesSale_69 : decode cX8_writesSale 69 = .ok (.iload_n 3, 1) := by decide +kernel
theorem dX8_writesSale_70 : decode cX8_writesSale 70 = .ok (.invokevirtual 191, 3) := by decide +kernel
theorem dX8_writesSale_73 : decode cX8_writesSale 73 = .ok (.invokevirtual 365, 3) := by decide +kernel
theorem dX8_writesSale_76 : decode cX8_writesSale 76 = .ok (.iconst 0, 1) := by decide +kernel
theorem dX8_writesSale_77 : decode cX8_writesSale 77 = .ok (.istore_n 2, 1) := by decide +kernel
theorem dX8_writesSale_78 : decode cX8_writesSale 78 = .ok (.iinc 4 1, 3) := by decide +kernel
theorem dX8_writesSale_81 : decode cX8_writesSale 81 = .ok (.goto (-39), 3) := by decide +kernel
theorem dX8_writesSale_84 : decode cX8_writesSale 84 = .ok (.iinc 3 1, 3) := by decide +kernel
theorem dX8_writesSale_87 : decode cX8_writesSale 87 = .ok (.goto (-58), 3) := by decide +kernel
theorem dX8_writesSale_90 : decode cX8_writesSale 90 = .ok (.return_, 1) := by decide +kernel
set_option maxHeartbeats 4000000 in
set_option maxRecDepth 100000 in
theorem m_X8_writesSale (l : Launch) (p : Int) (mem : Mem) (hN : 0 ≤ mem 1 0 ∧ mem 1 0 ≤ 8) (hp : 0 ≤ p ∧ p ≤ 449) (hPr : 0 ≤ mem 1 (p.toNat + 1) ∧ mem 1 (p.toNat + 1) ≤ 9999) (hV : ∀ k : Nat, k < 8 → 0 ≤ mem 1 (3 + k) ∧ mem 1 (3 + k) ≤ 9999) (hG : ∀ k : Nat, k < 8 → 0 ≤ mem 1 (p.toNat + 2 + k) ∧ mem 1 (p.toNat + 2 + k) ≤ 99) (hW : 0 ≤ mem 0 31 ∧ mem 0 31 ≤ 900000000) (hK : i32 (mem 0 32)) : Ret shp l yX8_writesSale cX8_writesSale 5 none 5 [pR 0, pI p] mem (fun rv mv => rv = none ∧ mv = wrM (saleT (mem 1) p.toNat (mem 1 0).toNat) mem) := by
  refine ret_of (by decide +kernel) (Nat.le_of_ble_eq_true rfl) (fun X hX F G => ?_)
  show Ok shp X 5 0 [(0, pR 0), (1, pI p)] [] mem
  have dl := digN_len 3 (mem 1 (p.toNat + 1))
  have al := strT_len (w := 12) (by decide)
  refine ok_aload_n F dX8_writesSale_0 0 rfl ?_
  refine ok_ldcsw (i := 12) F dX8_writesSale_1 (List.mem_of_getElem? (i := 21) rfl) ?_
  refine ok_callv F [pR (1000 + 12)] dX8_writesSale_4 kM_X8_writes_ kI_X8_writes_ kV_X8_writes_ kL_X8_368 (ci := 8) rfl sh_0 rfl (by decide) (Nat.le_of_ble_eq_true rfl) rfl (m_X8_writes_ _ 12 mem (by decide) (by omega) (by omega)) ?_
  rintro _ m_1 ⟨rfl, e_2⟩
  have ea := e_2
  obtain ⟨a1, a2, a3⟩ := wrE e_2
  refine ok_aload_n F dX8_writesSale_7 0 rfl ?_
  refine ok_aload_n F dX8_writesSale_8 0 rfl ?_
  refine ok_getr F dX8_writesSale_9 kF_X8_9 sh_0 rfl ?_
  refine ok_iload_n F dX8_writesSale_12 1 rfl ?_
  refine ok_iconst F dX8_writesSale_13 ?_
  refine ok_iadd F dX8_writesSale_14 ?_
  refine ok_iald (v := mem 1 ((p + 1).toNat)) F dX8_writesSale_15 sh_1 (by first | decide | assumption) (by omega) (by omega) (by rw [a3 1 (by decide)] <;> rfl) ?_
  refine ok_callv F [pI (mem 1 ((p + 1).toNat))] dX8_writesSale_16 kM_X8_writesNumber kI_X8_writesNumber kV_X8_writesNumber kL_X8_365 (ci := 8) rfl sh_0 rfl (by decide) (Nat.le_of_ble_eq_true rfl) rfl (m_X8_writesNumber_3 _ (mem 1 ((p + 1).toNat)) m_1 (by rw [show (p + 1).toNat = p.toNat + 1 by omega]; exact hPr) (by omega) (by omega)) ?_
  rintro _ m_3 ⟨rfl, e_4⟩
  have eb := e_4
  rw [show (p + 1).toNat = p.toNat + 1 by omega] at eb
  obtain ⟨b1, b2, b3⟩ := wrE eb
  refine ok_aload_n F dX8_writesSale_19 0 rfl ?_
  refine ok_bipush F dX8_writesSale_20 rfl ?_
  refine ok_callv F [pI 58] dX8_writesSale_22 kM_X8_writes kI_X8_writes kV_X8_writes kL_X8_362 (ci := 8) rfl sh_0 rfl (by decide) (Nat.le_of_ble_eq_true rfl) rfl (m_X8_writes _ 58 m_3 (by omega) (by omega)) ?_
  rintro _ m_5 ⟨rfl, e_6⟩
  have ec := e_6
  obtain ⟨c1, c2, c3⟩ := w1E e_6
  obtain ⟨mH, hmH⟩ : ∃ x, x = m_5 := ⟨_, rfl⟩
  have eH : mH = wrM (strT 12 ++ (digN 3 (mem 1 (p.toNat + 1)) ++ [58])) mem := by rw [wrM_app, wrM_app, ← ea, ← eb, hmH]; exact ec
  have hH1 : ∀ a, a ≠ 0 → mH a = mem a := fun a ha => by rw [hmH, c3 a ha, b3 a ha, a3 a ha]
  have hH31 : mH 0 31 ≤ mem 0 31 + 20 := by rw [hmH]; omega
  have hH30 : 0 ≤ mH 0 31 := by rw [hmH]; omega
  have hH32 : mH 0 32 = mem 0 32 := by rw [hmH]; omega
  refine ok_iconst F dX8_writesSale_25 ?_
  refine ok_istore_n (lv' := [(2, pI 1), (0, pR 0), (1, pI p)]) F dX8_writesSale_26 (by decide) rfl ?_
  refine ok_iconst F dX8_writesSale_27 ?_
  refine ok_istore_n (lv' := [(3, pI 0), (2, pI 1), (0, pR 0), (1, pI p)]) F dX8_writesSale_28 (by decide) rfl ?_
  have hL_29 : ∀ (n_29 : Nat) (z : Int) (k : Int) (m : Mem), (0 ≤ k ∧ k ≤ mem 1 0 ∧ z = (if cnB (mem 1) p.toNat k.toNat = 0 then 1 else 0) ∧ m = wrM (catN (kindG (mem 1) p.toNat) k.toNat) mH) → (mem 1 0 - k).toNat = n_29 → Ok shp X 5 29 [(0, pR 0), (1, pI p), (2, pI z), (3, pI k)] [] m := by
    intro n_29
    induction n_29 using Nat.strongRecOn with
    | _ n_29 ih_29 =>
      intro z k m hI_29 hn_29
      obtain ⟨hk0, hk1, hz, hE⟩ := hI_29
      obtain ⟨x1, x2, x3⟩ := wrE hE
      have xl := catN_len (g := kindG (mem 1) p.toNat) (B := 495) k.toNat (fun j hj => kindG_len (hG j (by omega)).2)
      have h1 : m 1 = mem 1 := by rw [x3 1 (by decide)]; exact hH1 1 (by decide)
      refine ok_iload_n F dX8_writesSale_29 3 rfl ?_
      refine ok_aload_n F dX8_writesSale_30 0 rfl ?_
      refine ok_getr F dX8_writesSale_31 kF_X8_9 sh_0 rfl ?_
      refine ok_iconst F dX8_writesSale_34 ?_
      refine ok_iald (v := mem 1 0) F dX8_writesSale_35 sh_1 (by first | decide | assumption) (by omega) (by omega) (by rw [h1] <;> rfl) ?_
      refine ok_icmp_ge F 90 dX8_writesSale_36 (by decide) (by omega) (by omega) (fun c_7 => ?_) (fun c_7 => ?_)
      · refine ok_vret F G dX8_writesSale_90 ?_
        refine ⟨rfl, ?_⟩
        rw [hE, show k = mem 1 0 by omega, eH]
        unfold saleT
        rw [← wrM_app]
        congr 1
        rw [List.append_assoc, List.append_assoc]
      · refine ok_iconst F dX8_writesSale_39 ?_
        refine ok_istore (lv' := [(4, pI 0), (0, pR 0), (1, pI p), (2, pI z), (3, pI k)]) F dX8_writesSale_40 (by decide) rfl ?_
        have hgk := hG k.toNat (by omega)
        rw [show p.toNat + 2 + k.toNat = (p + 2 + k).toNat by omega] at hgk
        have hvk := hV k.toNat (by omega)
        have hL_42 : ∀ (n_42 : Nat) (z : Int) (c : Int) (m2 : Mem), (0 ≤ c ∧ c ≤ mem 1 (p + 2 + k).toNat ∧ z = (if cnB (mem 1) p.toNat k.toNat + c.toNat = 0 then 1 else 0) ∧ m2 = wrM (catN (pcG (mem 1) p.toNat k.toNat) c.toNat) m) → (mem 1 (p + 2 + k).toNat - c).toNat = n_42 → Ok shp X 5 42 [(0, pR 0), (1, pI p), (2, pI z), (3, pI k), (4, pI c)] [] m2 := by
          intro n_42
          induction n_42 using Nat.strongRecOn with
          | _ n_42 ih_42 =>
            intro z c m2 hI_42 hn_42
            obtain ⟨hc0, hc1, hz2, hE2⟩ := hI_42
            obtain ⟨v1, v2, v3⟩ := wrE hE2
            have vl := catN_len (g := pcG (mem 1) p.toNat k.toNat) (B := 5) c.toNat (fun j _ => pcG_len _ _ _ j)
            have h12 : m2 1 = mem 1 := by rw [v3 1 (by decide)]; exact h1
            refine ok_iload F dX8_writesSale_42 4 rfl ?_
            refine ok_aload_n F dX8_writesSale_44 0 rfl ?_
            refine ok_getr F dX8_writesSale_45 kF_X8_9 sh_0 rfl ?_
            refine ok_iload_n F dX8_writesSale_48 1 rfl ?_
            refine ok_iconst F dX8_writesSale_49 ?_
            refine ok_iadd F dX8_writesSale_50 ?_
            refine ok_iload_n F dX8_writesSale_51 3 rfl ?_
            refine ok_iadd F dX8_writesSale_52 ?_
            refine ok_iald (v := mem 1 (((p + 2) + k).toNat)) F dX8_writesSale_53 sh_1 (by first | decide | assumption) (by omega) (by omega) (by rw [h12] <;> rfl) ?_
            refine ok_icmp_ge F 84 dX8_writesSale_54 (by decide) (by omega) (by omega) (fun c_8 => ?_) (fun c_8 => ?_)
            · refine ok_iinc (lv' := [(3, pI (k + 1)), (0, pR 0), (1, pI p), (2, pI z), (4, pI c)]) F dX8_writesSale_84 3 rfl (by decide) rfl ?_
              refine ok_goto F 29 dX8_writesSale_87 (by decide) ?_
              refine ok_lvp [1, 2, 3, 0] (lv' := [(0, pR 0), (1, pI p), (2, pI z), (3, pI (k + 1))]) rfl ?_
              refine ih_29 _ ?_ z (k + 1) m2 ?_ rfl
              · omega
              · have ec : c.toNat = cntF (mem 1) p.toNat k.toNat := by unfold cntF; rw [show p.toNat + 2 + k.toNat = (p + 2 + k).toNat by omega]; omega
                refine ⟨by omega, by omega, ?_, ?_⟩
                · rw [hz2, show (k + 1).toNat = k.toNat + 1 by omega, cnB_s, ec]
                · rw [hE2, show (k + 1).toNat = k.toNat + 1 by omega, catN_s, wrM_app, ← hE, ec]; rfl
            · refine ok_iload_n F dX8_writesSale_57 2 rfl ?_
              refine ok_if_ne F 67 dX8_writesSale_58 (by decide) (by omega) (fun c_9 => ?_) (fun c_9 => ?_)
              · refine ok_aload_n F dX8_writesSale_67 0 rfl ?_
                refine ok_aload_n F dX8_writesSale_68 0 rfl ?_
                refine ok_iload_n F dX8_writesSale_69 3 rfl ?_
                refine ok_callv F [pI k] dX8_writesSale_70 kM_X8_value kI_X8_value kV_X8_value kL_X8_191 (ci := 8) rfl sh_0 rfl (by decide) (Nat.le_of_ble_eq_true rfl) rfl (m_X8_value _ k m2 (by omega)) ?_
                rintro _ _ ⟨rfl, rfl⟩
                have k1 : m2 1 = mem 1 := by first | exact h12 | (rw [s3 1 (by decide)]; exact h12)
                refine ok_callv F [pI (m2 1 (3 + k).toNat)] dX8_writesSale_73 kM_X8_writesNumber kI_X8_writesNumber kV_X8_writesNumber kL_X8_365 (ci := 8) rfl sh_0 rfl (by decide) (Nat.le_of_ble_eq_true rfl) rfl (m_X8_writesNumber_3 _ (m2 1 (3 + k).toNat) m2 (by rw [k1, show (3 + k).toNat = 3 + k.toNat by omega]; exact hV k.toNat (by omega)) (by omega) (by omega)) ?_
                rintro _ m_10 ⟨rfl, e_11⟩
                have eN := e_11
                rw [k1, show (3 + k).toNat = 3 + k.toNat by omega] at eN
                refine ok_iconst F dX8_writesSale_76 ?_
                refine ok_istore_n (lv' := [(2, pI 0), (0, pR 0), (1, pI p), (3, pI k), (4, pI c)]) F dX8_writesSale_77 (by decide) rfl ?_
                refine ok_iinc (lv' := [(4, pI (c + 1)), (2, pI 0), (0, pR 0), (1, pI p), (3, pI k)]) F dX8_writesSale_78 4 rfl (by decide) rfl ?_
                refine ok_goto F 42 dX8_writesSale_81 (by decide) ?_
                refine ok_lvp [2, 3, 1, 4, 0] (lv' := [(0, pR 0), (1, pI p), (2, pI 0), (3, pI k), (4, pI (c + 1))]) rfl ?_
                refine ih_42 _ ?_ 0 (c + 1) m_10 ?_ rfl
                · omega
                · refine ⟨by omega, by omega, by rw [if_neg (by omega)], ?_⟩
                  rw [show (c + 1).toNat = c.toNat + 1 by omega, catN_s, wrM_app, ← hE2]
                  unfold pcG
                  first
                    | (rw [if_pos (by omega)]; exact eN)
                    | (rw [if_neg (by omega), wrM_app, eN, es]; rfl)
              · refine ok_aload_n F dX8_writesSale_61 0 rfl ?_
                refine ok_bipush F dX8_writesSale_62 rfl ?_
                refine ok_callv F [pI 32] dX8_writesSale_64 kM_X8_writes kI_X8_writes kV_X8_writes kL_X8_362 (ci := 8) rfl sh_0 rfl (by decide) (Nat.le_of_ble_eq_true rfl) rfl (m_X8_writes _ 32 m2 (by omega) (by omega)) ?_
                rintro _ m_12 ⟨rfl, e_13⟩
                have es := e_13
                obtain ⟨s1, s2, s3⟩ := w1E e_13
                refine ok_aload_n F dX8_writesSale_67 0 rfl ?_
                refine ok_aload_n F dX8_writesSale_68 0 rfl ?_
                refine ok_iload_n F dX8_writesSale_69 3 rfl ?_
                refine ok_callv F [pI k] dX8_writesSale_70 kM_X8_value kI_X8_value kV_X8_value kL_X8_191 (ci := 8) rfl sh_0 rfl (by decide) (Nat.le_of_ble_eq_true rfl) rfl (m_X8_value _ k m_12 (by omega)) ?_
                rintro _ _ ⟨rfl, rfl⟩
                have k1 : m_12 1 = mem 1 := by first | exact h12 | (rw [s3 1 (by decide)]; exact h12)
                refine ok_callv F [pI (m_12 1 (3 + k).toNat)] dX8_writesSale_73 kM_X8_writesNumber kI_X8_writesNumber kV_X8_writesNumber kL_X8_365 (ci := 8) rfl sh_0 rfl (by decide) (Nat.le_of_ble_eq_true rfl) rfl (m_X8_writesNumber_3 _ (m_12 1 (3 + k).toNat) m_12 (by rw [k1, show (3 + k).toNat = 3 + k.toNat by omega]; exact hV k.toNat (by omega)) (by omega) (by omega)) ?_
                rintro _ m_14 ⟨rfl, e_15⟩
                have eN := e_15
                rw [k1, show (3 + k).toNat = 3 + k.toNat by omega] at eN
                refine ok_iconst F dX8_writesSale_76 ?_
                refine ok_istore_n (lv' := [(2, pI 0), (0, pR 0), (1, pI p), (3, pI k), (4, pI c)]) F dX8_writesSale_77 (by decide) rfl ?_
                refine ok_iinc (lv' := [(4, pI (c + 1)), (2, pI 0), (0, pR 0), (1, pI p), (3, pI k)]) F dX8_writesSale_78 4 rfl (by decide) rfl ?_
                refine ok_goto F 42 dX8_writesSale_81 (by decide) ?_
                refine ok_lvp [2, 3, 1, 4, 0] (lv' := [(0, pR 0), (1, pI p), (2, pI 0), (3, pI k), (4, pI (c + 1))]) rfl ?_
                refine ih_42 _ ?_ 0 (c + 1) m_14 ?_ rfl
                · omega
                · refine ⟨by omega, by omega, by rw [if_neg (by omega)], ?_⟩
                  rw [show (c + 1).toNat = c.toNat + 1 by omega, catN_s, wrM_app, ← hE2]
                  unfold pcG
                  first
                    | (rw [if_pos (by omega)]; exact eN)
                    | (rw [if_neg (by omega), wrM_app, eN, es]; rfl)
        refine ok_lvp [1, 2, 3, 4, 0] (lv' := [(0, pR 0), (1, pI p), (2, pI z), (3, pI k), (4, pI 0)]) rfl ?_
        refine hL_42 _ z 0 m ?_ rfl
        exact ⟨by omega, by omega, hz, rfl⟩
  refine ok_lvp [2, 3, 1, 0] (lv' := [(0, pR 0), (1, pI p), (2, pI 1), (3, pI 0)]) rfl ?_
  refine hL_29 _ 1 0 m_5 ?_ rfl
  exact ⟨by omega, by omega, rfl, hmH.symm⟩
theorem dX8_writesAll_0 : decode cX8_writesAll 0 = .ok (.aload_n 0, 1) := by decide +kernel
theorem dX8_writesAll_1 : decode cX8_writesAll 1 = .ok (.iconst 0, 1) := by decide +kernel
theorem dX8_writesAll_2 : decode cX8_writesAll 2 = .ok (.putfield 353, 3) := by decide +kernel
theorem dX8_writesAll_5 : decode cX8_writesAll 5 = .ok (.aload_n 0, 1) := by decide +kernel
theorem dX8_writesAll_6 : decode cX8_writesAll 6 = .ok (.getfield 9, 3) := by decide +kernel
theorem dX8_writesAll_9 : decode cX8_writesAll 9 = .ok (.iconst 0, 1) := by decide +kernel
theorem dX8_writesAll_10 : decode cX8_writesAll 10 = .ok (.iaload, 1) := by decide +kernel
theorem dX8_writesAll_11 : decode cX8_writesAll 11 = .ok (.ifCond .ne 4, 3) := by decide +kernel
theorem dX8_writesAll_14 : decode cX8_writesAll 14 = .ok (.return_, 1) := by decide +kernel
theorem dX8_writesAll_15 : decode cX8_writesAll 15 = .ok (.aload_n 0, 1) := by decide +kernel
theorem dX8_writesAll_16 : decode cX8_writesAll 16 = .ok (.ldc 176, 2) := by decide +kernel
theorem dX8_writesAll_18 : decode cX8_writesAll 18 = .ok (.iconst 3, 1) := by decide +kernel
theorem dX8_writesAll_19 : decode cX8_writesAll 19 = .ok (.invokevirtual 373, 3) := by decide +kernel
theorem dX8_writesAll_22 : decode cX8_writesAll 22 = .ok (.aload_n 0, 1) := by decide +kernel
theorem dX8_writesAll_23 : decode cX8_writesAll 23 = .ok (.ldc_w 377, 3) := by decide +kernel
theorem dX8_writesAll_26 : decode cX8_writesAll 26 = .ok (.bipush 11, 2) := by decide +kernel
theorem dX8_writesAll_28 : decode cX8_writesAll 28 = .ok (.invokevirtual 373, 3) := by decide +kernel
theorem dX8_writesAll_31 : decode cX8_writesAll 31 = .ok (.aload_n 0, 1) := by decide +kernel
theorem dX8_writesAll_32 : decode cX8_writesAll 32 = .ok (.ldc_w 379, 3) := by decide +kernel
theorem dX8_writesAll_35 : decode cX8_writesAll 35 = .ok (.bipush 19, 2) := by decide +kernel
theorem dX8_writesAll_37 : decode cX8_writesAll 37 = .ok (.invokevirtual 373, 3) := by decide +kernel
theorem dX8_writesAll_40 : decode cX8_writesAll 40 = .ok (.aload_n 0, 1) := by decide +kernel
theorem dX8_writesAll_41 : decode cX8_writesAll 41 = .ok (.ldc_w 381, 3) := by decide +kernel
theorem dX8_writesAll_44 : decode cX8_writesAll 44 = .ok (.bipush 27, 2) := by decide +kernel
theorem dX8_writesAll_46 : decode cX8_writesAll 46 = .ok (.invokevirtual 373, 3) := by decide +kernel
theorem dX8_writesAll_49 : decode cX8_writesAll 49 = .ok (.aload_n 0, 1) := by decide +kernel
theorem dX8_writesAll_50 : decode cX8_writesAll 50 = .ok (.ldc_w 383, 3) := by decide +kernel
theorem dX8_writesAll_53 : decode cX8_writesAll 53 = .ok (.bipush 35, 2) := by decide +kernel
theorem dX8_writesAll_55 : decode cX8_writesAll 55 = .ok (.invokevirtual 373, 3) := by decide +kernel
theorem dX8_writesAll_58 : decode cX8_writesAll 58 = .ok (.iconst 0, 1) := by decide +kernel
theorem dX8_writesAll_59 : decode cX8_writesAll 59 = .ok (.istore_n 1, 1) := by decide +kernel
theorem dX8_writesAll_60 : decode cX8_writesAll 60 = .ok (.iload_n 1, 1) := by decide +kernel
theorem dX8_writesAll_61 : decode cX8_writesAll 61 = .ok (.aload_n 0, 1) := by decide +kernel
theorem dX8_writesAll_62 : decode cX8_writesAll 62 = .ok (.getfield 9, 3) := by decide +kernel
theorem dX8_writesAll_65 : decode cX8_writesAll 65 = .ok (.iconst 1, 1) := by decide +kernel
theorem dX8_writesAll_66 : decode cX8_writesAll 66 = .ok (.iaload, 1) := by decide +kernel
theorem dX8_writesAll_67 : decode cX8_writesAll 67 = .ok (.if_icmp .ge 61, 3) := by decide +kernel
theorem dX8_writesAll_70 : decode cX8_writesAll 70 = .ok (.aload_n 0, 1) := by decide +kernel
theorem dX8_writesAll_71 : decode cX8_writesAll 71 = .ok (.ldc_w 385, 3) := by decide +kernel
theorem dX8_writesAll_74 : decode cX8_writesAll 74 = .ok (.invokevirtual 368, 3) := by decide +kernel
theorem dX8_writesAll_77 : decode cX8_writesAll 77 = .ok (.iconst 0, 1) := by decide +kernel
theorem dX8_writesAll_78 : decode cX8_writesAll 78 = .ok (.istore_n 2, 1) := by decide +kernel
theorem dX8_writesAll_79 : decode cX8_writesAll 79 = .ok (.iload_n 2, 1) := by decide +kernel
theorem dX8_writesAll_80 : decode cX8_writesAll 80 = .ok (.aload_n 0, 1) := by decide +kernel
theorem dX8_writesAll_81 : decode cX8_writesAll 81 = .ok (.getfield 9, 3) := by decide +kernel
theorem dX8_writesAll_84 : decode cX8_writesAll 84 = .ok (.iconst 2, 1) := by decide +kernel
theorem dX8_writesAll_85 : decode cX8_writesAll 85 = .ok (.iaload, 1) := by decide +kernel
theorem dX8_writesAll_86 : decode cX8_writesAll 86 = .ok (.if_icmp .ge 36, 3) := by decide +kernel
theorem dX8_writesAll_89 : decode cX8_writesAll 89 = .ok (.aload_n 0, 1) := by decide +kernel
theorem dX8_writesAll_90 : decode cX8_writesAll 90 = .ok (.getfield 9, 3) := by decide +kernel
theorem dX8_writesAll_93 : decode cX8_writesAll 93 = .ok (.bipush 59, 2) := by decide +kernel
theorem dX8_writesAll_95 : decode cX8_writesAll 95 = .ok (.bipush 10, 2) := by decide +kernel
theorem dX8_writesAll_97 : decode cX8_writesAll 97 = .ok (.iload_n 2, 1) := by decide +kernel
theorem dX8_writesAll_98 : decode cX8_writesAll 98 = .ok (.imul, 1) := by decide +kernel
theorem dX8_writesAll_99 : decode cX8_writesAll 99 = .ok (.iadd, 1) := by decide +kernel
theorem dX8_writesAll_100 : decode cX8_writesAll 100 = .ok (.iaload, 1) := by decide +kernel
theorem dX8_writesAll_101 : decode cX8_writesAll 101 = .ok (.iload_n 1, 1) := by decide +kernel
theorem dX8_writesAll_102 : decode cX8_writesAll 102 = .ok (.if_icmp .ne 14, 3) := by decide +kernel
theorem dX8_writesAll_105 : decode cX8_writesAll 105 = .ok (.aload_n 0, 1) := by decide +kernel
theorem dX8_writesAll_106 : decode cX8_writesAll 106 = .ok (.bipush 59, 2) := by decide +kernel
theorem dX8_writesAll_108 : decode cX8_writesAll 108 = .ok (.bipush 10, 2) := by decide +kernel
theorem dX8_writesAll_110 : decode cX8_writesAll 110 = .ok (.iload_n 2, 1) := by decide +kernel
theorem dX8_writesAll_111 : decode cX8_writesAll 111 = .ok (.imul, 1) := by decide +kernel
theorem dX8_writesAll_112 : decode cX8_writesAll 112 = .ok (.iadd, 1) := by decide +kernel
theorem dX8_writesAll_113 : decode cX8_writesAll 113 = .ok (.invokevirtual 387, 3) := by decide +kernel
theorem dX8_writesAll_116 : decode cX8_writesAll 116 = .ok (.iinc 2 1, 3) := by decide +kernel
theorem dX8_writesAll_119 : decode cX8_writesAll 119 = .ok (.goto (-40), 3) := by decide +kernel
theorem dX8_writesAll_122 : decode cX8_writesAll 122 = .ok (.iinc 1 1, 3) := by decide +kernel
theorem dX8_writesAll_125 : decode cX8_writesAll 125 = .ok (.goto (-65), 3) := by decide +kernel
theorem dX8_writesAll_128 : decode cX8_writesAll 128 = .ok (.return_, 1) := by decide +kernel
set_option maxHeartbeats 4000000 in
set_option maxRecDepth 100000 in
theorem m_X8_writesAll (l : Launch) (mem : Mem) (hN : 0 ≤ mem 1 0 ∧ mem 1 0 ≤ 8) (hN1 : 0 ≤ mem 1 1 ∧ mem 1 1 ≤ 5) (hN2 : 0 ≤ mem 1 2 ∧ mem 1 2 ≤ 40) (hV : ∀ k : Nat, k < 40 → 0 ≤ mem 1 (3 + k) ∧ mem 1 (3 + k) ≤ 9999) (hS : ∀ s : Nat, (s : Int) < mem 1 2 → i32 (mem 1 (59 + 10 * s)) ∧ (0 ≤ mem 1 (59 + 10 * s + 1) ∧ mem 1 (59 + 10 * s + 1) ≤ 9999) ∧ ∀ k : Nat, k < 8 → 0 ≤ mem 1 (59 + 10 * s + 2 + k) ∧ mem 1 (59 + 10 * s + 2 + k) ≤ 99) (hK : i32 (mem 0 32)) : Ret shp l yX8_writesAll cX8_writesAll 3 none 6 [pR 0] mem (fun rv mv => rv = none ∧ mv = wrM (allT (mem 1)) (mset mem 0 31 0)) := by
  refine ret_of (by decide +kernel) (Nat.le_of_ble_eq_true rfl) (fun X hX F G => ?_)
  show Ok shp X 3 0 [(0, pR 0)] [] mem
  have hl := fun w (hw : w < 13) (s : Nat) => (show (rowT w (mem 1) s (mem 1 0).toNat).length ≤ 46 from by
    have a := catN_len (g := rowG (mem 1) s) (B := 5) (mem 1 0).toNat (fun j _ => rowG_len _ _ j)
    have b := strT_len hw
    unfold rowT
    rw [List.length_append]
    omega)
  refine ok_aload_n F dX8_writesAll_0 0 rfl ?_
  refine ok_iconst F dX8_writesAll_1 ?_
  refine ok_putf F dX8_writesAll_2 kF_X8_353 sh_0 rfl rfl rfl (fun m_1 e_2 => ?_)
  obtain ⟨M0, hM0⟩ : ∃ x, x = m_1 := ⟨_, rfl⟩
  have e00 : M0 = mset mem 0 31 0 := by rw [hM0]; exact e_2
  have i01 : M0 1 = mem 1 := by rw [e00]; exact mset_nka (by decide)
  have i031 : M0 0 31 = 0 := by rw [e00]; exact mset_eq _ _ _ _
  have i032 : M0 0 32 = mem 0 32 := by rw [e00]; exact mset_ne (by decide)
  refine ok_aload_n F dX8_writesAll_5 0 rfl ?_
  refine ok_getr F dX8_writesAll_6 kF_X8_9 sh_0 rfl ?_
  refine ok_iconst F dX8_writesAll_9 ?_
  refine ok_iald (v := mem 1 0) F dX8_writesAll_10 sh_1 (by first | decide | assumption) (by omega) (by omega) (by rw [e_2, mset_nk (by decide)] <;> rfl) ?_
  refine ok_if_ne F 15 dX8_writesAll_11 (by decide) (by omega) (fun c_3 => ?_) (fun c_3 => ?_)
  · refine ok_aload_n F dX8_writesAll_15 0 rfl ?_
    refine ok_ldcs (i := 0) F dX8_writesAll_16 (List.mem_of_getElem? (i := 20) rfl) ?_
    refine ok_iconst F dX8_writesAll_18 ?_
    refine ok_callv F [pR (1000 + 0), pI 3] dX8_writesAll_19 kM_X8_writesRow kI_X8_writesRow kV_X8_writesRow kL_X8_373 (ci := 8) rfl sh_0 rfl (by decide) (Nat.le_of_ble_eq_true rfl) rfl (m_X8_writesRow _ 0 3 m_1 (by decide) (by rw [← hM0, i01]; exact hN) (by omega) (fun j hj => by rw [← hM0, i01, show Int.toNat 3 = 3 from rfl]; have := hV (0 + j) (by omega); rw [show 3 + (0 + j) = 3 + j by omega] at this; exact this) (by rw [← hM0]; omega) (by rw [← hM0, i032]; exact hK)) ?_
    rintro _ m_4 ⟨rfl, e_5⟩
    have eR1 := e_5
    rw [← hM0, i01, show Int.toNat 3 = 3 from rfl] at eR1
    obtain ⟨M1, hM1⟩ : ∃ x, x = m_4 := ⟨_, rfl⟩
    rw [← hM1] at eR1
    obtain ⟨x1, x2, x3⟩ := wrE eR1
    have l1 := hl 0 (by decide) 3
    have i11 : M1 1 = mem 1 := by rw [x3 1 (by decide)]; exact i01
    have i131 : 0 ≤ M1 0 31 ∧ M1 0 31 ≤ 46 := by omega
    have i132 : M1 0 32 = mem 0 32 := by omega
    refine ok_aload_n F dX8_writesAll_22 0 rfl ?_
    refine ok_ldcsw (i := 7) F dX8_writesAll_23 (List.mem_of_getElem? (i := 22) rfl) ?_
    refine ok_bipush F dX8_writesAll_26 rfl ?_
    refine ok_callv F [pR (1000 + 7), pI 11] dX8_writesAll_28 kM_X8_writesRow kI_X8_writesRow kV_X8_writesRow kL_X8_373 (ci := 8) rfl sh_0 rfl (by decide) (Nat.le_of_ble_eq_true rfl) rfl (m_X8_writesRow _ 7 11 m_4 (by decide) (by rw [← hM1, i11]; exact hN) (by omega) (fun j hj => by rw [← hM1, i11, show Int.toNat 11 = 11 from rfl]; have := hV (8 + j) (by omega); rw [show 3 + (8 + j) = 11 + j by omega] at this; exact this) (by rw [← hM1]; omega) (by rw [← hM1, i132]; exact hK)) ?_
    rintro _ m_6 ⟨rfl, e_7⟩
    have eR2 := e_7
    rw [← hM1, i11, show Int.toNat 11 = 11 from rfl] at eR2
    obtain ⟨M2, hM2⟩ : ∃ x, x = m_6 := ⟨_, rfl⟩
    rw [← hM2] at eR2
    obtain ⟨x1, x2, x3⟩ := wrE eR2
    have l2 := hl 7 (by decide) 11
    have i21 : M2 1 = mem 1 := by rw [x3 1 (by decide)]; exact i11
    have i231 : 0 ≤ M2 0 31 ∧ M2 0 31 ≤ 92 := by omega
    have i232 : M2 0 32 = mem 0 32 := by omega
    refine ok_aload_n F dX8_writesAll_31 0 rfl ?_
    refine ok_ldcsw (i := 8) F dX8_writesAll_32 (List.mem_of_getElem? (i := 23) rfl) ?_
    refine ok_bipush F dX8_writesAll_35 rfl ?_
    refine ok_callv F [pR (1000 + 8), pI 19] dX8_writesAll_37 kM_X8_writesRow kI_X8_writesRow kV_X8_writesRow kL_X8_373 (ci := 8) rfl sh_0 rfl (by decide) (Nat.le_of_ble_eq_true rfl) rfl (m_X8_writesRow _ 8 19 m_6 (by decide) (by rw [← hM2, i21]; exact hN) (by omega) (fun j hj => by rw [← hM2, i21, show Int.toNat 19 = 19 from rfl]; have := hV (16 + j) (by omega); rw [show 3 + (16 + j) = 19 + j by omega] at this; exact this) (by rw [← hM2]; omega) (by rw [← hM2, i232]; exact hK)) ?_
    rintro _ m_8 ⟨rfl, e_9⟩
    have eR3 := e_9
    rw [← hM2, i21, show Int.toNat 19 = 19 from rfl] at eR3
    obtain ⟨M3, hM3⟩ : ∃ x, x = m_8 := ⟨_, rfl⟩
    rw [← hM3] at eR3
    obtain ⟨x1, x2, x3⟩ := wrE eR3
    have l3 := hl 8 (by decide) 19
    have i31 : M3 1 = mem 1 := by rw [x3 1 (by decide)]; exact i21
    have i331 : 0 ≤ M3 0 31 ∧ M3 0 31 ≤ 138 := by omega
    have i332 : M3 0 32 = mem 0 32 := by omega
    refine ok_aload_n F dX8_writesAll_40 0 rfl ?_
    refine ok_ldcsw (i := 9) F dX8_writesAll_41 (List.mem_of_getElem? (i := 24) rfl) ?_
    refine ok_bipush F dX8_writesAll_44 rfl ?_
    refine ok_callv F [pR (1000 + 9), pI 27] dX8_writesAll_46 kM_X8_writesRow kI_X8_writesRow kV_X8_writesRow kL_X8_373 (ci := 8) rfl sh_0 rfl (by decide) (Nat.le_of_ble_eq_true rfl) rfl (m_X8_writesRow _ 9 27 m_8 (by decide) (by rw [← hM3, i31]; exact hN) (by omega) (fun j hj => by rw [← hM3, i31, show Int.toNat 27 = 27 from rfl]; have := hV (24 + j) (by omega); rw [show 3 + (24 + j) = 27 + j by omega] at this; exact this) (by rw [← hM3]; omega) (by rw [← hM3, i332]; exact hK)) ?_
    rintro _ m_10 ⟨rfl, e_11⟩
    have eR4 := e_11
    rw [← hM3, i31, show Int.toNat 27 = 27 from rfl] at eR4
    obtain ⟨M4, hM4⟩ : ∃ x, x = m_10 := ⟨_, rfl⟩
    rw [← hM4] at eR4
    obtain ⟨x1, x2, x3⟩ := wrE eR4
    have l4 := hl 9 (by decide) 27
    have i41 : M4 1 = mem 1 := by rw [x3 1 (by decide)]; exact i31
    have i431 : 0 ≤ M4 0 31 ∧ M4 0 31 ≤ 184 := by omega
    have i432 : M4 0 32 = mem 0 32 := by omega
    refine ok_aload_n F dX8_writesAll_49 0 rfl ?_
    refine ok_ldcsw (i := 10) F dX8_writesAll_50 (List.mem_of_getElem? (i := 25) rfl) ?_
    refine ok_bipush F dX8_writesAll_53 rfl ?_
    refine ok_callv F [pR (1000 + 10), pI 35] dX8_writesAll_55 kM_X8_writesRow kI_X8_writesRow kV_X8_writesRow kL_X8_373 (ci := 8) rfl sh_0 rfl (by decide) (Nat.le_of_ble_eq_true rfl) rfl (m_X8_writesRow _ 10 35 m_10 (by decide) (by rw [← hM4, i41]; exact hN) (by omega) (fun j hj => by rw [← hM4, i41, show Int.toNat 35 = 35 from rfl]; have := hV (32 + j) (by omega); rw [show 3 + (32 + j) = 35 + j by omega] at this; exact this) (by rw [← hM4]; omega) (by rw [← hM4, i432]; exact hK)) ?_
    rintro _ m_12 ⟨rfl, e_13⟩
    have eR5 := e_13
    rw [← hM4, i41, show Int.toNat 35 = 35 from rfl] at eR5
    obtain ⟨M5, hM5⟩ : ∃ x, x = m_12 := ⟨_, rfl⟩
    rw [← hM5] at eR5
    obtain ⟨x1, x2, x3⟩ := wrE eR5
    have l5 := hl 10 (by decide) 35
    have i51 : M5 1 = mem 1 := by rw [x3 1 (by decide)]; exact i41
    have i531 : 0 ≤ M5 0 31 ∧ M5 0 31 ≤ 230 := by omega
    have i532 : M5 0 32 = mem 0 32 := by omega
    refine ok_iconst F dX8_writesAll_58 ?_
    refine ok_istore_n (lv' := [(1, pI 0), (0, pR 0)]) F dX8_writesAll_59 (by decide) rfl ?_
    have hL_60 : ∀ (n_60 : Nat) (d : Int) (m : Mem), (0 ≤ d ∧ d ≤ mem 1 1 ∧ m = wrM (catN (dayG (mem 1)) d.toNat) M5) → (mem 1 1 - d).toNat = n_60 → Ok shp X 3 60 [(0, pR 0), (1, pI d)] [] m := by
      intro n_60
      induction n_60 using Nat.strongRecOn with
      | _ n_60 ih_60 =>
        intro d m hI_60 hn_60
        obtain ⟨hd0, hd1, hE⟩ := hI_60
        obtain ⟨x1, x2, x3⟩ := wrE hE
        have xl := catN_len (g := dayG (mem 1)) (B := 160006) d.toNat (fun j hj => dayG_len (by omega) (by omega) (fun s hs k hk => ((hS s (by omega)).2.2 k hk).2))
        have h1 : m 1 = mem 1 := by rw [x3 1 (by decide)]; exact i51
        refine ok_iload_n F dX8_writesAll_60 1 rfl ?_
        refine ok_aload_n F dX8_writesAll_61 0 rfl ?_
        refine ok_getr F dX8_writesAll_62 kF_X8_9 sh_0 rfl ?_
        refine ok_iconst F dX8_writesAll_65 ?_
        refine ok_iald (v := mem 1 1) F dX8_writesAll_66 sh_1 (by first | decide | assumption) (by omega) (by omega) (by rw [h1] <;> rfl) ?_
        refine ok_icmp_ge F 128 dX8_writesAll_67 (by decide) (by omega) (by omega) (fun c_14 => ?_) (fun c_14 => ?_)
        · refine ok_vret F G dX8_writesAll_128 ?_
          refine ⟨rfl, ?_⟩
          rw [hE, show d = mem 1 1 by omega, eR5, eR4, eR3, eR2, eR1, e00]
          unfold allT
          rw [if_neg (by omega), wrM_app, wrM_app, wrM_app, wrM_app, wrM_app]
        · refine ok_aload_n F dX8_writesAll_70 0 rfl ?_
          refine ok_ldcsw (i := 11) F dX8_writesAll_71 (List.mem_of_getElem? (i := 26) rfl) ?_
          refine ok_callv F [pR (1000 + 11)] dX8_writesAll_74 kM_X8_writes_ kI_X8_writes_ kV_X8_writes_ kL_X8_368 (ci := 8) rfl sh_0 rfl (by decide) (Nat.le_of_ble_eq_true rfl) rfl (m_X8_writes_ _ 11 m (by decide) (by omega) (by omega)) ?_
          rintro _ m_15 ⟨rfl, e_16⟩
          have et := e_16
          obtain ⟨t1, t2, t3⟩ := wrE e_16
          have tl := strT_len (w := 11) (by decide)
          obtain ⟨mD, hmD⟩ : ∃ x, x = m_15 := ⟨_, rfl⟩
          have d1 : mD 1 = mem 1 := by rw [hmD, t3 1 (by decide)]; exact h1
          have d31 : 0 ≤ mD 0 31 ∧ mD 0 31 ≤ m 0 31 + 6 := by rw [hmD]; omega
          have d32 : mD 0 32 = mem 0 32 := by rw [hmD]; omega
          have et2 : mD = wrM (strT 11) m := by rw [hmD]; exact et
          refine ok_iconst F dX8_writesAll_77 ?_
          refine ok_istore_n (lv' := [(2, pI 0), (0, pR 0), (1, pI d)]) F dX8_writesAll_78 (by decide) rfl ?_
          have hL_79 : ∀ (n_79 : Nat) (s : Int) (m2 : Mem), (0 ≤ s ∧ s ≤ mem 1 2 ∧ m2 = wrM (catN (daySG (mem 1) (mem 1 0).toNat d.toNat) s.toNat) mD) → (mem 1 2 - s).toNat = n_79 → Ok shp X 3 79 [(0, pR 0), (1, pI d), (2, pI s)] [] m2 := by
            intro n_79
            induction n_79 using Nat.strongRecOn with
            | _ n_79 ih_79 =>
              intro s m2 hI_79 hn_79
              obtain ⟨hs0, hs1, hE2⟩ := hI_79
              obtain ⟨v1, v2, v3⟩ := wrE hE2
              have vl := catN_len (g := daySG (mem 1) (mem 1 0).toNat d.toNat) (B := 4000) s.toNat (fun j hj => daySG_len (by omega) (fun k hk => ((hS j (by omega)).2.2 k hk).2))
              have h12 : m2 1 = mem 1 := by rw [v3 1 (by decide)]; exact d1
              refine ok_iload_n F dX8_writesAll_79 2 rfl ?_
              refine ok_aload_n F dX8_writesAll_80 0 rfl ?_
              refine ok_getr F dX8_writesAll_81 kF_X8_9 sh_0 rfl ?_
              refine ok_iconst F dX8_writesAll_84 ?_
              refine ok_iald (v := mem 1 2) F dX8_writesAll_85 sh_1 (by first | decide | assumption) (by omega) (by omega) (by rw [h12] <;> rfl) ?_
              refine ok_icmp_ge F 122 dX8_writesAll_86 (by decide) (by omega) (by omega) (fun c_17 => ?_) (fun c_17 => ?_)
              · refine ok_iinc (lv' := [(1, pI (d + 1)), (0, pR 0), (2, pI s)]) F dX8_writesAll_122 1 rfl (by decide) rfl ?_
                refine ok_goto F 60 dX8_writesAll_125 (by decide) ?_
                refine ok_lvp [1, 0] (lv' := [(0, pR 0), (1, pI (d + 1))]) rfl ?_
                refine ih_60 _ ?_ (d + 1) m2 ?_ rfl
                · omega
                · refine ⟨by omega, by omega, ?_⟩
                  rw [hE2, et2, hE, show (d + 1).toNat = d.toNat + 1 by omega, catN_s, wrM_app _ (dayG (mem 1) d.toNat)]
                  unfold dayG
                  rw [wrM_app, show s.toNat = (mem 1 2).toNat by omega]
              · refine ok_aload_n F dX8_writesAll_89 0 rfl ?_
                refine ok_getr F dX8_writesAll_90 kF_X8_9 sh_0 rfl ?_
                refine ok_bipush F dX8_writesAll_93 rfl ?_
                refine ok_bipush F dX8_writesAll_95 rfl ?_
                refine ok_iload_n F dX8_writesAll_97 2 rfl ?_
                refine ok_imul F dX8_writesAll_98 ?_
                refine ok_iadd F dX8_writesAll_99 ?_
                refine ok_iald (v := mem 1 ((59 + (10 * s)).toNat)) F dX8_writesAll_100 sh_1 (by first | decide | assumption) (by omega) (by omega) (by rw [h12] <;> rfl) ?_
                have hds := (hS s.toNat (by omega)).1
                rw [show 59 + 10 * s.toNat = (59 + 10 * s).toNat by omega] at hds
                refine ok_iload_n F dX8_writesAll_101 1 rfl ?_
                refine ok_icmp_ne F 116 dX8_writesAll_102 (by decide) (by omega) (by omega) (fun c_18 => ?_) (fun c_18 => ?_)
                · refine ok_iinc (lv' := [(2, pI (s + 1)), (0, pR 0), (1, pI d)]) F dX8_writesAll_116 2 rfl (by decide) rfl ?_
                  refine ok_goto F 79 dX8_writesAll_119 (by decide) ?_
                  refine ok_lvp [1, 2, 0] (lv' := [(0, pR 0), (1, pI d), (2, pI (s + 1))]) rfl ?_
                  refine ih_79 _ ?_ (s + 1) m2 ?_ rfl
                  · omega
                  · have hgo : m2 = wrM (daySG (mem 1) (mem 1 0).toNat d.toNat s.toNat) m2 := by
                      unfold daySG
                      rw [show ((d.toNat : Nat) : Int) = d by omega, show 59 + 10 * s.toNat = (59 + 10 * s).toNat by omega]
                      first
                        | (rw [if_neg (by omega)]; rfl)
                        | (rw [if_pos (by omega), show (59 + 10 * s).toNat = 59 + 10 * s.toNat by omega]; exact ew)
                    refine ⟨by omega, by omega, ?_⟩
                    rw [hgo, show (s + 1).toNat = s.toNat + 1 by omega, catN_s, wrM_app _ (daySG _ _ _ _), ← hE2]
                · refine ok_aload_n F dX8_writesAll_105 0 rfl ?_
                  refine ok_bipush F dX8_writesAll_106 rfl ?_
                  refine ok_bipush F dX8_writesAll_108 rfl ?_
                  refine ok_iload_n F dX8_writesAll_110 2 rfl ?_
                  refine ok_imul F dX8_writesAll_111 ?_
                  refine ok_iadd F dX8_writesAll_112 ?_
                  refine ok_callv F [pI (59 + (10 * s))] dX8_writesAll_113 kM_X8_writesSale kI_X8_writesSale kV_X8_writesSale kL_X8_387 (ci := 8) rfl sh_0 rfl (by decide) (Nat.le_of_ble_eq_true rfl) rfl (m_X8_writesSale _ (59 + (10 * s)) m2 (by rw [h12]; exact hN) (by omega) (by rw [h12, show (59 + 10 * s).toNat = 59 + 10 * s.toNat by omega]; exact (hS s.toNat (by omega)).2.1) (fun j hj => by rw [h12]; exact hV j (by omega)) (fun j hj => by rw [h12, show (59 + 10 * s).toNat = 59 + 10 * s.toNat by omega]; exact (hS s.toNat (by omega)).2.2 j hj) (by omega) (by omega)) ?_
                  rintro _ m_19 ⟨rfl, e_20⟩
                  have ew := e_20
                  rw [h12, show (59 + 10 * s).toNat = 59 + 10 * s.toNat by omega] at ew
                  refine ok_iinc (lv' := [(2, pI (s + 1)), (0, pR 0), (1, pI d)]) F dX8_writesAll_116 2 rfl (by decide) rfl ?_
                  refine ok_goto F 79 dX8_writesAll_119 (by decide) ?_
                  refine ok_lvp [1, 2, 0] (lv' := [(0, pR 0), (1, pI d), (2, pI (s + 1))]) rfl ?_
                  refine ih_79 _ ?_ (s + 1) m_19 ?_ rfl
                  · omega
                  · have hgo : m_19 = wrM (daySG (mem 1) (mem 1 0).toNat d.toNat s.toNat) m2 := by
                      unfold daySG
                      rw [show ((d.toNat : Nat) : Int) = d by omega, show 59 + 10 * s.toNat = (59 + 10 * s).toNat by omega]
                      first
                        | (rw [if_neg (by omega)]; rfl)
                        | (rw [if_pos (by omega), show (59 + 10 * s).toNat = 59 + 10 * s.toNat by omega]; exact ew)
                    refine ⟨by omega, by omega, ?_⟩
                    rw [hgo, show (s + 1).toNat = s.toNat + 1 by omega, catN_s, wrM_app _ (daySG _ _ _ _), ← hE2]
          refine ok_lvp [1, 2, 0] (lv' := [(0, pR 0), (1, pI d), (2, pI 0)]) rfl ?_
          refine hL_79 _ 0 m_15 ?_ rfl
          exact ⟨by omega, by omega, hmD.symm⟩
    refine ok_lvp [1, 0] (lv' := [(0, pR 0), (1, pI 0)]) rfl ?_
    refine hL_60 _ 0 m_12 ?_ rfl
    exact ⟨by omega, by omega, hM5.symm⟩
  · refine ok_vret F G dX8_writesAll_14 ?_
    refine ⟨rfl, ?_⟩
    unfold allT
    rw [if_pos (by omega), e_2]; rfl
theorem dX8_letter_0 : decode cX8_letter 0 = .ok (.iload_n 1, 1) := by decide +kernel
theorem dX8_letter_1 : decode cX8_letter 1 = .ok (.iconst (-1), 1) := by decide +kernel
theorem dX8_letter_2 : decode cX8_letter 2 = .ok (.if_icmp .ge 5, 3) := by decide +kernel
theorem dX8_letter_5 : decode cX8_letter 5 = .ok (.iconst (-1), 1) := by decide +kernel
theorem dX8_letter_6 : decode cX8_letter 6 = .ok (.ireturn, 1) := by decide +kernel
theorem dX8_letter_7 : decode cX8_letter 7 = .ok (.aload_n 0, 1) := by decide +kernel
theorem dX8_letter_8 : decode cX8_letter 8 = .ok (.iload_n 1, 1) := by decide +kernel
theorem dX8_letter_9 : decode cX8_letter 9 = .ok (.putfield 356, 3) := by decide +kernel
theorem dX8_letter_12 : decode cX8_letter 12 = .ok (.aload_n 0, 1) := by decide +kernel
theorem dX8_letter_13 : decode cX8_letter 13 = .ok (.invokevirtual 390, 3) := by decide +kernel
theorem dX8_letter_16 : decode cX8_letter 16 = .ok (.iload_n 1, 1) := by decide +kernel
theorem dX8_letter_17 : decode cX8_letter 17 = .ok (.iconst (-1), 1) := by decide +kernel
theorem dX8_letter_18 : decode cX8_letter 18 = .ok (.if_icmp .ne 10, 3) := by decide +kernel
theorem dX8_letter_21 : decode cX8_letter 21 = .ok (.aload_n 0, 1) := by decide +kernel
theorem dX8_letter_22 : decode cX8_letter 22 = .ok (.getfield 353, 3) := by decide +kernel
theorem dX8_letter_25 : decode cX8_letter 25 = .ok (.goto 20, 3) := by decide +kernel
theorem dX8_letter_28 : decode cX8_letter 28 = .ok (.iload_n 1, 1) := by decide +kernel
theorem dX8_letter_29 : decode cX8_letter 29 = .ok (.aload_n 0, 1) := by decide +kernel
theorem dX8_letter_30 : decode cX8_letter 30 = .ok (.getfield 353, 3) := by decide +kernel
theorem dX8_letter_33 : decode cX8_letter 33 = .ok (.if_icmp .ge 10, 3) := by decide +kernel
theorem dX8_letter_36 : decode cX8_letter 36 = .ok (.aload_n 0, 1) := by decide +kernel
theorem dX8_letter_37 : decode cX8_letter 37 = .ok (.getfield 359, 3) := by decide +kernel
theorem dX8_letter_40 : decode cX8_letter 40 = .ok (.goto 5, 3) := by decide +kernel
theorem dX8_letter_43 : decode cX8_letter 43 = .ok (.bipush (-2), 2) := by decide +kernel
theorem dX8_letter_45 : decode cX8_letter 45 = .ok (.ireturn, 1) := by decide +kernel
set_option maxHeartbeats 4000000 in
set_option maxRecDepth 100000 in
theorem m_X8_letter (l : Launch) (k : Int) (mem : Mem) (hk : i32 k) (hN : 0 ≤ mem 1 0 ∧ mem 1 0 ≤ 8) (hN1 : 0 ≤ mem 1 1 ∧ mem 1 1 ≤ 5) (hN2 : 0 ≤ mem 1 2 ∧ mem 1 2 ≤ 40) (hV : ∀ k : Nat, k < 40 → 0 ≤ mem 1 (3 + k) ∧ mem 1 (3 + k) ≤ 9999) (hS : ∀ s : Nat, (s : Int) < mem 1 2 → i32 (mem 1 (59 + 10 * s)) ∧ (0 ≤ mem 1 (59 + 10 * s + 1) ∧ mem 1 (59 + 10 * s + 1) ≤ 9999) ∧ ∀ k : Nat, k < 8 → 0 ≤ mem 1 (59 + 10 * s + 2 + k) ∧ mem 1 (59 + 10 * s + 2 + k) ≤ 99) : Ret shp l yX8_letter cX8_letter 2 (some .int) 7 [pR 0, pI k] mem (fun rv mv => rv = some (pI (if k < -1 then -1 else letA (allT (mem 1)) k)) ∧ mv = if k < -1 then mem else wrM (allT (mem 1)) (mset (mset mem 0 32 k) 0 31 0)) := by
  refine ret_of (by decide +kernel) (Nat.le_of_ble_eq_true rfl) (fun X hX F G => ?_)
  show Ok shp X 2 0 [(0, pR 0), (1, pI k)] [] mem
  refine ok_iload_n F dX8_letter_0 1 rfl ?_
  refine ok_iconst F dX8_letter_1 ?_
  refine ok_icmp_ge F 7 dX8_letter_2 (by decide) (by omega) (by omega) (fun c_1 => ?_) (fun c_1 => ?_)
  · refine ok_aload_n F dX8_letter_7 0 rfl ?_
    refine ok_iload_n F dX8_letter_8 1 rfl ?_
    refine ok_putf F dX8_letter_9 kF_X8_356 sh_0 rfl rfl rfl (fun m_2 e_3 => ?_)
    have g1 : m_2 1 = mem 1 := by rw [e_3]; exact mset_nka (by decide)
    have g32 : m_2 0 32 = k := by rw [e_3]; exact mset_eq _ _ _ _
    have eK := e_3
    refine ok_aload_n F dX8_letter_12 0 rfl ?_
    refine ok_callv F [] dX8_letter_13 kM_X8_writesAll kI_X8_writesAll kV_X8_writesAll kL_X8_390 (ci := 8) rfl sh_0 rfl (by decide) (Nat.le_of_ble_eq_true rfl) rfl (m_X8_writesAll _ m_2 (by rw [g1]; exact hN) (by rw [g1]; exact hN1) (by rw [g1]; exact hN2) (by rw [g1]; exact hV) (by rw [g1]; exact hS) (by rw [g32]; exact hk)) ?_
    rintro _ m_4 ⟨rfl, e_5⟩
    have eW := e_5
    rw [g1, eK] at eW
    obtain ⟨w1, w2, w3⟩ := wrE eW
    have w4 := wrM_found (allT (mem 1)) (mset (mset mem 0 32 k) 0 31 0) k (by rw [mset_ne (by decide), mset_eq])
    rw [← eW, mset_eq] at w4
    rw [mset_eq] at w1
    have hL := allT_len (f := mem 1) hN.2 hN1.2 hN2.2 (fun s hs j hj => ((hS s (by omega)).2.2 j hj).2)
    refine ok_iload_n F dX8_letter_16 1 rfl ?_
    refine ok_iconst F dX8_letter_17 ?_
    refine ok_icmp_ne F 28 dX8_letter_18 (by decide) (by omega) (by omega) (fun c_6 => ?_) (fun c_6 => ?_)
    · refine ok_iload_n F dX8_letter_28 1 rfl ?_
      refine ok_aload_n F dX8_letter_29 0 rfl ?_
      refine ok_getf (v := m_4 0 31) F dX8_letter_30 kF_X8_353 sh_0 rfl rfl ?_
      refine ok_icmp_ge F 43 dX8_letter_33 (by decide) (by omega) (by omega) (fun c_7 => ?_) (fun c_7 => ?_)
      · refine ok_bipush F dX8_letter_43 rfl ?_
        refine ok_iret F G dX8_letter_45 ?_
        refine ⟨?_, by rw [if_neg (by omega)]; exact eW⟩
        rw [if_neg (by omega)]
        unfold letA
        first
          | (rw [if_pos (by omega), w1, Int.zero_add]; done)
          | (rw [if_neg (by omega), if_pos (by omega), w4, if_pos (by omega), Int.sub_zero]; done)
          | (rw [if_neg (by omega), if_neg (by omega)]; done)
      · refine ok_aload_n F dX8_letter_36 0 rfl ?_
        refine ok_getf (v := m_4 0 33) F dX8_letter_37 kF_X8_359 sh_0 rfl rfl ?_
        refine ok_goto F 45 dX8_letter_40 (by decide) ?_
        refine ok_iret F G dX8_letter_45 ?_
        refine ⟨?_, by rw [if_neg (by omega)]; exact eW⟩
        rw [if_neg (by omega)]
        unfold letA
        first
          | (rw [if_pos (by omega), w1, Int.zero_add]; done)
          | (rw [if_neg (by omega), if_pos (by omega), w4, if_pos (by omega), Int.sub_zero]; done)
          | (rw [if_neg (by omega), if_neg (by omega)]; done)
    · refine ok_aload_n F dX8_letter_21 0 rfl ?_
      refine ok_getf (v := m_4 0 31) F dX8_letter_22 kF_X8_353 sh_0 rfl rfl ?_
      refine ok_goto F 45 dX8_letter_25 (by decide) ?_
      refine ok_iret F G dX8_letter_45 ?_
      refine ⟨?_, by rw [if_neg (by omega)]; exact eW⟩
      rw [if_neg (by omega)]
      unfold letA
      first
        | (rw [if_pos (by omega), w1, Int.zero_add]; done)
        | (rw [if_neg (by omega), if_pos (by omega), w4, if_pos (by omega), Int.sub_zero]; done)
        | (rw [if_neg (by omega), if_neg (by omega)]; done)
  · refine ok_iconst F dX8_letter_5 ?_
    refine ok_iret F G dX8_letter_6 ?_
    exact ⟨by rw [if_pos (by omega)], by rw [if_pos (by omega)]⟩
