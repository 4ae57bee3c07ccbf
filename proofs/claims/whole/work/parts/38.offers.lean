/-! the class: change, by no end of pieces where the stock has it, else by the table -/
/-- what the table of no end of pieces is between calls -/
def PI (m : Mem) : Prop := (0 ≤ m 183 5 ∧ m 183 5 ≤ 8) ∧ (0 ≤ m 183 6 ∧ m 183 6 ≤ 2500) ∧ (∀ i : Nat, (i : Int) < m 183 5 → 1 ≤ m 187 i ∧ m 187 i ≤ 500) ∧ (∀ i : Nat, i < 8 → 0 ≤ m 187 i ∧ m 187 i ≤ 500) ∧ (∀ a : Nat, a ≤ 2500 → (-1 ≤ m 189 a ∧ m 189 a ≤ 7) ∧ 0 ≤ m 188 a ∧ m 188 a ≤ 2500) ∧ PLN (m 189) (m 188) (fun i => (m 187 i).toNat) (m 183 5).toNat (m 183 6).toNat
/-- an amount's offers of the first k kinds -/
def OFF (pk pp : Nat → Int) (v : Nat → Nat) (k a : Nat) : Prop := (pk a = -1 ∧ ∀ j, j < k → v j ≤ a → pk (a - v j) < 0) ∨ ∃ K : Nat, K < k ∧ pk a = (K : Int) ∧ v K ≤ a ∧ 0 ≤ pk (a - v K) ∧ pp a = pp (a - v K) + 1 ∧ ∀ j, j < k → v j ≤ a → 0 ≤ pk (a - v j) → pp a < pp (a - v j) + 1 ∨ pp a = pp (a - v j) + 1 ∧ j ≤ K
theorem OFF.congr {pk pp qk qp : Nat → Int} {v w : Nat → Nat} {k a : Nat} (h : OFF pk pp v k a) (e : ∀ x, x ≤ a → qk x = pk x ∧ qp x = pp x) (ev : ∀ i, i < k → w i = v i) : OFF qk qp w k a := by
  rcases h with ⟨h1, h2⟩ | ⟨K, k1, k2, k3, k4, k5, k6⟩
  · exact Or.inl ⟨by rw [(e a (Nat.le_refl _)).1]; exact h1, fun j hj hv => by rw [ev j hj] at hv ⊢; rw [(e _ (Nat.sub_le _ _)).1]; exact h2 j hj hv⟩
  · refine Or.inr ⟨K, k1, by rw [(e a (Nat.le_refl _)).1]; exact k2, by rw [ev K k1]; exact k3, by rw [ev K k1, (e _ (Nat.sub_le _ _)).1]; exact k4, by rw [ev K k1, (e a (Nat.le_refl _)).2, (e _ (Nat.sub_le _ _)).2]; exact k5, fun j hj hv hp => ?_⟩
    rw [ev j hj] at hv hp ⊢
    rw [(e _ (Nat.sub_le _ _)).1] at hp
    rw [(e a (Nat.le_refl _)).2, (e _ (Nat.sub_le _ _)).2]
    exact k6 j hj hv hp
theorem PLN.congr {pk pp qk qp : Nat → Int} {v w : Nat → Nat} {n top : Nat} (h : PLN pk pp v n top) (e : ∀ x, x ≤ top → qk x = pk x ∧ qp x = pp x) (ev : ∀ i, i < n → w i = v i) : PLN qk qp w n top :=
  ⟨by rw [(e 0 (Nat.zero_le _)).1]; exact h.1, by rw [(e 0 (Nat.zero_le _)).2]; exact h.2.1, fun a h1 h2 => OFF.congr (h.2.2 a h1 h2) (fun x hx => e x (by omega)) ev⟩
theorem PI.congr {m mv : Mem} (h : PI m) (e : ∀ a, 183 ≤ a → a ≤ 189 → a ≠ 184 → a ≠ 185 → a ≠ 186 → mv a = m a) : PI mv := by
  have e3 := e 183 (by decide) (by decide) (by decide) (by decide) (by decide)
  have e7 := e 187 (by decide) (by decide) (by decide) (by decide) (by decide)
  have e8 := e 188 (by decide) (by decide) (by decide) (by decide) (by decide)
  have e9 := e 189 (by decide) (by decide) (by decide) (by decide) (by decide)
  unfold PI
  rw [e3, e7, e8, e9]
  exact h
/-- the tables of the class between calls -/
def CI (m : Mem) : Prop := PI m ∧ FI m
theorem FI.congr {m mv : Mem} (h : FI m) (e : ∀ a, 186 ≤ a → a ≤ 206 → a ≠ 187 → a ≠ 188 → a ≠ 189 → mv a = m a) : FI mv := by
  have e6 := e 186 (by decide) (by decide) (by decide) (by decide) (by decide)
  have e0 := e 190 (by decide) (by decide) (by decide) (by decide) (by decide)
  have e1 := e 191 (by decide) (by decide) (by decide) (by decide) (by decide)
  have e2 := e 192 (by decide) (by decide) (by decide) (by decide) (by decide)
  unfold FI
  rw [e6, e0, e1, e2]
  rcases h with h | ⟨T, K, h, h2⟩ | ⟨K, h, h2⟩
  · exact Or.inl h
  · exact Or.inr (Or.inl ⟨T, K, h.congr e, h2⟩)
  · exact Or.inr (Or.inr ⟨K, h.congr e, h2⟩)
theorem CI.congr {m mv : Mem} (h : CI m) (e : ∀ a, 183 ≤ a → a ≤ 206 → a ≠ 184 → a ≠ 185 → mv a = m a) : CI mv := ⟨h.1.congr (fun a a1 a2 a3 a4 _ => e a a1 (by omega) a3 a4), h.2.congr (fun a a1 a2 _ _ _ => e a (by omega) a2 (by omega) (by omega))⟩
theorem dX0_isPlentyFor_0 : decode cX0_isPlentyFor 0 = .ok (.aload_n 0, 1) := by decide +kernel
theorem dX0_isPlentyFor_1 : decode cX0_isPlentyFor 1 = .ok (.getfield 64, 3) := by decide +kernel
theorem dX0_isPlentyFor_4 : decode cX0_isPlentyFor 4 = .ok (.aload_n 1, 1) := by decide +kernel
theorem dX0_isPlentyFor_5 : decode cX0_isPlentyFor 5 = .ok (.getfield 45, 3) := by decide +kernel
theorem dX0_isPlentyFor_8 : decode cX0_isPlentyFor 8 = .ok (.if_icmp .eq 5, 3) := by decide +kernel
theorem dX0_isPlentyFor_11 : decode cX0_isPlentyFor 11 = .ok (.iconst 0, 1) := by decide +kernel
theorem dX0_isPlentyFor_12 : decode cX0_isPlentyFor 12 = .ok (.ireturn, 1) := by decide +kernel
theorem dX0_isPlentyFor_13 : decode cX0_isPlentyFor 13 = .ok (.iconst 0, 1) := by decide +kernel
theorem dX0_isPlentyFor_14 : decode cX0_isPlentyFor 14 = .ok (.istore_n 2, 1) := by decide +kernel
theorem dX0_isPlentyFor_15 : decode cX0_isPlentyFor 15 = .ok (.iload_n 2, 1) := by decide +kernel
theorem dX0_isPlentyFor_16 : decode cX0_isPlentyFor 16 = .ok (.aload_n 1, 1) := by decide +kernel
theorem dX0_isPlentyFor_17 : decode cX0_isPlentyFor 17 = .ok (.getfield 45, 3) := by decide +kernel
theorem dX0_isPlentyFor_20 : decode cX0_isPlentyFor 20 = .ok (.if_icmp .ge 26, 3) := by decide +kernel
theorem dX0_isPlentyFor_23 : decode cX0_isPlentyFor 23 = .ok (.aload_n 0, 1) := by decide +kernel
theorem dX0_isPlentyFor_24 : decode cX0_isPlentyFor 24 = .ok (.getfield 22, 3) := by decide +kernel
theorem dX0_isPlentyFor_27 : decode cX0_isPlentyFor 27 = .ok (.iload_n 2, 1) := by decide +kernel
theorem dX0_isPlentyFor_28 : decode cX0_isPlentyFor 28 = .ok (.iaload, 1) := by decide +kernel
theorem dX0_isPlentyFor_29 : decode cX0_isPlentyFor 29 = .ok (.aload_n 1, 1) := by decide +kernel
theorem dX0_isPlentyFor_30 : decode cX0_isPlentyFor 30 = .ok (.getfield 57, 3) := by decide +kernel
theorem dX0_isPlentyFor_33 : decode cX0_isPlentyFor 33 = .ok (.iload_n 2, 1) := by decide +kernel
theorem dX0_isPlentyFor_34 : decode cX0_isPlentyFor 34 = .ok (.iaload, 1) := by decide +kernel
theorem dX0_isPlentyFor_35 : decode cX0_isPlentyFor 35 = .ok (.if_icmp .eq 5, 3) := by decide +kernel
theorem dX0_isPlentyFor_38 : decode cX0_isPlentyFor 38 = .ok (.iconst 0, 1) := by decide +kernel
theorem dX0_isPlentyFor_39 : decode cX0_isPlentyFor 39 = .ok (.ireturn, 1) := by decide +kernel
theorem dX0_isPlentyFor_40 : decode cX0_isPlentyFor 40 = .ok (.iinc 2 1, 3) := by decide +kernel
theorem dX0_isPlentyFor_43 : decode cX0_isPlentyFor 43 = .ok (.goto (-28), 3) := by decide +kernel
theorem dX0_isPlentyFor_46 : decode cX0_isPlentyFor 46 = .ok (.iconst 1, 1) := by decide +kernel
theorem dX0_isPlentyFor_47 : decode cX0_isPlentyFor 47 = .ok (.ireturn, 1) := by decide +kernel
set_option maxHeartbeats 4000000 in
set_option maxRecDepth 100000 in
theorem m_X0_isPlentyFor (l : Launch) (mem : Mem) (hP : PI mem) (hN : 0 ≤ mem 21 0 ∧ mem 21 0 ≤ 8) (hV : ∀ i : Nat, i < 8 → 0 ≤ mem 22 i ∧ mem 22 i ≤ 500) : Ret shp l yX0_isPlentyFor cX0_isPlentyFor 3 (some .boolean) 0 [pR 183, pR 21] mem (fun rv mv => ∃ z, rv = some (pI z) ∧ mem = mv ∧ (z = 0 ∨ z = 1 ∧ mem 183 5 = mem 21 0 ∧ ∀ i : Nat, (i : Int) < mem 21 0 → mem 187 i = mem 22 i)) := by
  refine ret_of (by decide +kernel) (Nat.le_of_ble_eq_true rfl) (fun X hX F G => ?_)
  show Ok shp X 3 0 [(0, pR 183), (1, pR 21)] [] mem
  obtain ⟨p1, p2, p3, p4, p5, p6⟩ := id hP
  refine ok_aload_n F dX0_isPlentyFor_0 0 rfl ?_
  refine ok_getf (v := mem 183 5) F dX0_isPlentyFor_1 kF_X0_64 sh_183 rfl rfl ?_
  refine ok_aload_n F dX0_isPlentyFor_4 1 rfl ?_
  refine ok_getf (v := mem 21 0) F dX0_isPlentyFor_5 kF_X0_45 sh_21 rfl rfl ?_
  refine ok_icmp_eq F 13 dX0_isPlentyFor_8 (by decide) (by omega) (by omega) (fun c_1 => ?_) (fun c_1 => ?_)
  · refine ok_iconst F dX0_isPlentyFor_13 ?_
    refine ok_istore_n (lv' := [(2, pI 0), (0, pR 183), (1, pR 21)]) F dX0_isPlentyFor_14 (by decide) rfl ?_
    have hL_15 : ∀ (n_15 : Nat) (k : Int), (0 ≤ k ∧ k ≤ mem 21 0 ∧ ∀ i : Nat, (i : Int) < k → mem 187 i = mem 22 i) → (mem 21 0 - k).toNat = n_15 → Ok shp X 3 15 [(0, pR 183), (1, pR 21), (2, pI k)] [] mem := by
      intro n_15
      induction n_15 using Nat.strongRecOn with
      | _ n_15 ih_15 =>
        intro k hI_15 hn_15
        refine ok_iload_n F dX0_isPlentyFor_15 2 rfl ?_
        refine ok_aload_n F dX0_isPlentyFor_16 1 rfl ?_
        refine ok_getf (v := mem 21 0) F dX0_isPlentyFor_17 kF_X0_45 sh_21 rfl rfl ?_
        refine ok_icmp_ge F 46 dX0_isPlentyFor_20 (by decide) (by omega) (by omega) (fun c_2 => ?_) (fun c_2 => ?_)
        · refine ok_iconst F dX0_isPlentyFor_46 ?_
          refine ok_zret F G dX0_isPlentyFor_47 (by first | rfl | exact zb_nar) ?_
          exact ⟨_, rfl, rfl, Or.inr ⟨rfl, by omega, fun i hi => hI_15.2.2 i (by omega)⟩⟩
        · have q1 := p4 k.toNat (by omega)
          have q2 := hV k.toNat (by omega)
          refine ok_aload_n F dX0_isPlentyFor_23 0 rfl ?_
          refine ok_getr F dX0_isPlentyFor_24 kF_X0_22 sh_183 rfl ?_
          refine ok_iload_n F dX0_isPlentyFor_27 2 rfl ?_
          refine ok_iald (v := mem 187 k.toNat) F dX0_isPlentyFor_28 sh_187 (by first | decide | assumption) (by omega) (by omega) rfl ?_
          refine ok_aload_n F dX0_isPlentyFor_29 1 rfl ?_
          refine ok_getr F dX0_isPlentyFor_30 kF_X0_57 sh_21 rfl ?_
          refine ok_iload_n F dX0_isPlentyFor_33 2 rfl ?_
          refine ok_iald (v := mem 22 k.toNat) F dX0_isPlentyFor_34 sh_22 (by first | decide | assumption) (by omega) (by omega) rfl ?_
          refine ok_icmp_eq F 40 dX0_isPlentyFor_35 (by decide) (by omega) (by omega) (fun c_3 => ?_) (fun c_3 => ?_)
          · refine ok_iinc (lv' := [(2, pI (k + 1)), (0, pR 183), (1, pR 21)]) F dX0_isPlentyFor_40 2 rfl (by decide) rfl ?_
            refine ok_goto F 15 dX0_isPlentyFor_43 (by decide) ?_
            refine ok_lvp [1, 2, 0] (lv' := [(0, pR 183), (1, pR 21), (2, pI (k + 1))]) rfl ?_
            refine ih_15 _ ?_ (k + 1) ?_ rfl
            · omega
            · refine ⟨by omega, by omega, fun i hi => ?_⟩
              by_cases e : i = k.toNat
              · subst e; omega
              · exact hI_15.2.2 i (by omega)
          · refine ok_iconst F dX0_isPlentyFor_38 ?_
            refine ok_zret F G dX0_isPlentyFor_39 (by first | rfl | exact zb_nar) ?_
            exact ⟨_, rfl, rfl, Or.inl rfl⟩
    refine ok_lvp [1, 2, 0] (lv' := [(0, pR 183), (1, pR 21), (2, pI 0)]) rfl ?_
    refine hL_15 _ 0 ?_ rfl
    exact ⟨by omega, by omega, fun i hi => by omega⟩
  · refine ok_iconst F dX0_isPlentyFor_11 ?_
    refine ok_zret F G dX0_isPlentyFor_12 (by first | rfl | exact zb_nar) ?_
    exact ⟨_, rfl, rfl, Or.inl rfl⟩
theorem dX0_offerKind_0 : decode cX0_offerKind 0 = .ok (.iload_n 3, 1) := by decide +kernel
theorem dX0_offerKind_1 : decode cX0_offerKind 1 = .ok (.iconst 1, 1) := by decide +kernel
theorem dX0_offerKind_2 : decode cX0_offerKind 2 = .ok (.if_icmp .lt 19, 3) := by decide +kernel
theorem dX0_offerKind_5 : decode cX0_offerKind 5 = .ok (.iload_n 3, 1) := by decide +kernel
theorem dX0_offerKind_6 : decode cX0_offerKind 6 = .ok (.iload_n 1, 1) := by decide +kernel
theorem dX0_offerKind_7 : decode cX0_offerKind 7 = .ok (.if_icmp .gt 14, 3) := by decide +kernel
theorem dX0_offerKind_10 : decode cX0_offerKind 10 = .ok (.aload_n 0, 1) := by decide +kernel
theorem dX0_offerKind_11 : decode cX0_offerKind 11 = .ok (.getfield 28, 3) := by decide +kernel
theorem dX0_offerKind_14 : decode cX0_offerKind 14 = .ok (.iload_n 1, 1) := by decide +kernel
theorem dX0_offerKind_15 : decode cX0_offerKind 15 = .ok (.iload_n 3, 1) := by decide +kernel
theorem dX0_offerKind_16 : decode cX0_offerKind 16 = .ok (.isub, 1) := by decide +kernel
theorem dX0_offerKind_17 : decode cX0_offerKind 17 = .ok (.iaload, 1) := by decide +kernel
theorem dX0_offerKind_18 : decode cX0_offerKind 18 = .ok (.ifCond .ge 4, 3) := by decide +kernel
theorem dX0_offerKind_21 : decode cX0_offerKind 21 = .ok (.return_, 1) := by decide +kernel
theorem dX0_offerKind_22 : decode cX0_offerKind 22 = .ok (.aload_n 0, 1) := by decide +kernel
theorem dX0_offerKind_23 : decode cX0_offerKind 23 = .ok (.getfield 25, 3) := by decide +kernel
theorem dX0_offerKind_26 : decode cX0_offerKind 26 = .ok (.iload_n 1, 1) := by decide +kernel
theorem dX0_offerKind_27 : decode cX0_offerKind 27 = .ok (.iload_n 3, 1) := by decide +kernel
theorem dX0_offerKind_28 : decode cX0_offerKind 28 = .ok (.isub, 1) := by decide +kernel
theorem dX0_offerKind_29 : decode cX0_offerKind 29 = .ok (.iaload, 1) := by decide +kernel
theorem dX0_offerKind_30 : decode cX0_offerKind 30 = .ok (.iconst 1, 1) := by decide +kernel
theorem dX0_offerKind_31 : decode cX0_offerKind 31 = .ok (.iadd, 1) := by decide +kernel
theorem dX0_offerKind_32 : decode cX0_offerKind 32 = .ok (.istore 4, 2) := by decide +kernel
theorem dX0_offerKind_34 : decode cX0_offerKind 34 = .ok (.aload_n 0, 1) := by decide +kernel
theorem dX0_offerKind_35 : decode cX0_offerKind 35 = .ok (.getfield 28, 3) := by decide +kernel
theorem dX0_offerKind_38 : decode cX0_offerKind 38 = .ok (.iload_n 1, 1) := by decide +kernel
theorem dX0_offerKind_39 : decode cX0_offerKind 39 = .ok (.iaload, 1) := by decide +kernel
theorem dX0_offerKind_40 : decode cX0_offerKind 40 = .ok (.ifCond .lt 14, 3) := by decide +kernel
theorem dX0_offerKind_43 : decode cX0_offerKind 43 = .ok (.iload 4, 2) := by decide +kernel
theorem dX0_offerKind_45 : decode cX0_offerKind 45 = .ok (.aload_n 0, 1) := by decide +kernel
theorem dX0_offerKind_46 : decode cX0_offerKind 46 = .ok (.getfield 25, 3) := by decide +kernel
theorem dX0_offerKind_49 : decode cX0_offerKind 49 = .ok (.iload_n 1, 1) := by decide +kernel
theorem dX0_offerKind_50 : decode cX0_offerKind 50 = .ok (.iaload, 1) := by decide +kernel
theorem dX0_offerKind_51 : decode cX0_offerKind 51 = .ok (.if_icmp .gt 18, 3) := by decide +kernel
theorem dX0_offerKind_54 : decode cX0_offerKind 54 = .ok (.aload_n 0, 1) := by decide +kernel
theorem dX0_offerKind_55 : decode cX0_offerKind 55 = .ok (.getfield 28, 3) := by decide +kernel
theorem dX0_offerKind_58 : decode cX0_offerKind 58 = .ok (.iload_n 1, 1) := by decide +kernel
theorem dX0_offerKind_59 : decode cX0_offerKind 59 = .ok (.iload_n 2, 1) := by decide +kernel
theorem dX0_offerKind_60 : decode cX0_offerKind 60 = .ok (.iastore, 1) := by decide +kernel
theorem dX0_offerKind_61 : decode cX0_offerKind 61 = .ok (.aload_n 0, 1) := by decide +kernel
theorem dX0_offerKind_62 : decode cX0_offerKind 62 = .ok (.getfield 25, 3) := by decide +kernel
theorem dX0_offerKind_65 : decode cX0_offerKind 65 = .ok (.iload_n 1, 1) := by decide +kernel
theorem dX0_offerKind_66 : decode cX0_offerKind 66 = .ok (.iload 4, 2) := by decide +kernel
theorem dX0_offerKind_68 : decode cX0_offerKind 68 = .ok (.iastore, 1) := by decide +kernel
theorem dX0_offerKind_69 : decode cX0_offerKind 69 = .ok (.return_, 1) := by decide +kernel
set_option maxHeartbeats 4000000 in
set_option maxRecDepth 100000 in
theorem m_X0_offerKind (l : Launch) (w : Nat → Nat) (a : Int) (k : Int) (v : Int) (mem : Mem) (ha : 1 ≤ a ∧ a ≤ 2500) (hk : 0 ≤ k ∧ k < 8) (hv : 1 ≤ v ∧ v ≤ 500) (hB : ∀ x : Nat, x ≤ 2500 → (-1 ≤ mem 189 x ∧ mem 189 x ≤ 7) ∧ 0 ≤ mem 188 x ∧ mem 188 x ≤ 2500) (hlt : ∀ x : Nat, x < a.toNat → 0 ≤ mem 189 x → mem 188 x ≤ x) (hv2 : (w k.toNat : Int) = v) (ho : OFF (mem 189) (mem 188) w k.toNat a.toNat) : Ret shp l yX0_offerKind cX0_offerKind 5 none 0 [pR 183, pI a, pI k, pI v] mem (fun rv mv => rv = none ∧ (∀ c, c ≠ 188 → c ≠ 189 → mv c = mem c) ∧ (∀ x : Nat, x ≠ a.toNat → mv 188 x = mem 188 x ∧ mv 189 x = mem 189 x) ∧ ((-1 ≤ mv 189 a.toNat ∧ mv 189 a.toNat ≤ 7) ∧ 0 ≤ mv 188 a.toNat ∧ mv 188 a.toNat ≤ 2500) ∧ OFF (mv 189) (mv 188) w (k + 1).toNat a.toNat) := by
  refine ret_of (by decide +kernel) (Nat.le_of_ble_eq_true rfl) (fun X hX F G => ?_)
  show Ok shp X 5 0 [(0, pR 183), (1, pI a), (2, pI k), (3, pI v)] [] mem
  have ba := hB a.toNat (by omega)
  have ek : (k + 1).toNat = k.toNat + 1 := by omega
  refine ok_iload_n F dX0_offerKind_0 3 rfl ?_
  refine ok_iconst F dX0_offerKind_1 ?_
  refine ok_icmp_lt F 21 dX0_offerKind_2 (by decide) (by omega) (by omega) (fun c_1 => ?_) (fun c_1 => ?_)
  · exfalso; omega
  · refine ok_iload_n F dX0_offerKind_5 3 rfl ?_
    refine ok_iload_n F dX0_offerKind_6 1 rfl ?_
    refine ok_icmp_gt F 21 dX0_offerKind_7 (by decide) (by omega) (by omega) (fun c_2 => ?_) (fun c_2 => ?_)
    · refine ok_vret F G dX0_offerKind_21 ?_
      refine ⟨rfl, fun _ _ _ => rfl, fun _ _ => ⟨rfl, rfl⟩, ba, ?_⟩
      rw [ek]
      rcases ho with ⟨o1, o2⟩ | ⟨K, k1, k2, k3, k4, k5, k6⟩
      · exact Or.inl ⟨o1, fun j hj hw => by by_cases e : j = k.toNat; (subst e; first | (exfalso; omega) | (rw [es]; omega)); exact o2 j (by omega) hw⟩
      · exact Or.inr ⟨K, by omega, k2, k3, k4, k5, fun j hj hw hp => by by_cases e : j = k.toNat; (subst e; first | (exfalso; omega) | (rw [es] at hp; exfalso; omega)); exact k6 j (by omega) hw hp⟩
    · have bs := hB (a - v).toNat (by omega)
      have es : a.toNat - w k.toNat = (a - v).toNat := by omega
      have hl := hlt (a - v).toNat (by omega)
      refine ok_aload_n F dX0_offerKind_10 0 rfl ?_
      refine ok_getr F dX0_offerKind_11 kF_X0_28 sh_183 rfl ?_
      refine ok_iload_n F dX0_offerKind_14 1 rfl ?_
      refine ok_iload_n F dX0_offerKind_15 3 rfl ?_
      refine ok_isub F dX0_offerKind_16 ?_
      refine ok_iald (v := mem 189 ((a - v).toNat)) F dX0_offerKind_17 sh_189 (by first | decide | assumption) (by omega) (by omega) rfl ?_
      refine ok_if_ge F 22 dX0_offerKind_18 (by decide) (by omega) (fun c_3 => ?_) (fun c_3 => ?_)
      · refine ok_aload_n F dX0_offerKind_22 0 rfl ?_
        refine ok_getr F dX0_offerKind_23 kF_X0_25 sh_183 rfl ?_
        refine ok_iload_n F dX0_offerKind_26 1 rfl ?_
        refine ok_iload_n F dX0_offerKind_27 3 rfl ?_
        refine ok_isub F dX0_offerKind_28 ?_
        refine ok_iald (v := mem 188 ((a - v).toNat)) F dX0_offerKind_29 sh_188 (by first | decide | assumption) (by omega) (by omega) rfl ?_
        refine ok_iconst F dX0_offerKind_30 ?_
        refine ok_iadd F dX0_offerKind_31 ?_
        refine ok_istore (lv' := [(4, pI ((mem 188 ((a - v).toNat)) + 1)), (0, pR 183), (1, pI a), (2, pI k), (3, pI v)]) F dX0_offerKind_32 (by decide) rfl ?_
        refine ok_aload_n F dX0_offerKind_34 1 rfl ?_
        refine ok_getr F dX0_offerKind_35 kF_X0_28 sh_183 rfl ?_
        refine ok_iload_n F dX0_offerKind_38 2 rfl ?_
        refine ok_iald (v := mem 189 a.toNat) F dX0_offerKind_39 sh_189 (by first | decide | assumption) (by omega) (by omega) rfl ?_
        refine ok_if_lt F 54 dX0_offerKind_40 (by decide) (by omega) (fun c_4 => ?_) (fun c_4 => ?_)
        · refine ok_aload_n F dX0_offerKind_54 1 rfl ?_
          refine ok_getr F dX0_offerKind_55 kF_X0_28 sh_183 rfl ?_
          refine ok_iload_n F dX0_offerKind_58 2 rfl ?_
          refine ok_iload_n F dX0_offerKind_59 3 rfl ?_
          refine ok_iast F dX0_offerKind_60 sh_189 (by first | decide | assumption) (by omega) (by omega) (fun m_5 e_6 => ?_)
          refine ok_aload_n F dX0_offerKind_61 1 rfl ?_
          refine ok_getr F dX0_offerKind_62 kF_X0_25 sh_183 rfl ?_
          refine ok_iload_n F dX0_offerKind_65 2 rfl ?_
          refine ok_iload F dX0_offerKind_66 0 rfl ?_
          refine ok_iast F dX0_offerKind_68 sh_188 (by first | decide | assumption) (by omega) (by omega) (fun m_7 e_8 => ?_)
          refine ok_vret F G dX0_offerKind_69 ?_
          first
            | (refine ⟨rfl, fun c c1 c2 => by rw [e_8, e_6, mset_nka c1, mset_nka c2], fun x hx => by rw [e_8, e_6]; exact ⟨by rw [mset_ne (fun q => hx q.2), mset_nk (by decide)], by rw [mset_nk (by decide), mset_ne (fun q => hx q.2)]⟩, by rw [e_8, e_6, mset_nk (by decide), mset_eq, mset_eq]; omega, ?_⟩
               have g9 : ∀ x, m_7 189 x = if x = a.toNat then k else mem 189 x := fun x => by rw [e_8, e_6, mset_nk (by decide)]; by_cases e : x = a.toNat; (rw [if_pos e, e, mset_eq]); (rw [if_neg e, mset_ne (fun q => e q.2)])
               have g8 : ∀ x, m_7 188 x = if x = a.toNat then mem 188 (a - v).toNat + 1 else mem 188 x := fun x => by rw [e_8, e_6]; by_cases e : x = a.toNat; (rw [if_pos e, e, mset_eq]); (rw [if_neg e, mset_ne (fun q => e q.2), mset_nk (by decide)])
               rw [ek]
               refine Or.inr ⟨k.toNat, by omega, by rw [g9, if_pos rfl]; omega, by omega, by rw [es, g9, if_neg (by omega)]; omega, by rw [es, g8, g8, if_pos rfl, if_neg (by omega)], fun j hj hw hp => ?_⟩
               by_cases ej : j = k.toNat
               · subst ej; rw [es, g8, g8, if_pos rfl, if_neg (by omega)]; exact Or.inr ⟨rfl, Nat.le_refl _⟩
               · by_cases wz : a.toNat - w j = a.toNat
                 · rw [g8, g8, wz, if_pos rfl]; omega
                 · rw [g9, if_neg wz] at hp; rw [g8, g8, if_pos rfl, if_neg wz]
                   rcases ho with ⟨o1, o2⟩ | ⟨K, k1, k2, k3, k4, k5, k6⟩
                   · have := o2 j (by omega) hw; omega
                   · have := k6 j (by omega) hw hp; omega)
            | (refine ⟨rfl, fun _ _ _ => rfl, fun _ _ => ⟨rfl, rfl⟩, ba, ?_⟩; rw [ek]; rcases ho with ⟨o1, o2⟩ | ⟨K, k1, k2, k3, k4, k5, k6⟩; (exfalso; omega); exact Or.inr ⟨K, by omega, k2, k3, k4, k5, fun j hj hw hp => by by_cases e : j = k.toNat; (subst e; rw [es]; left; omega); exact k6 j (by omega) hw hp⟩)
        · refine ok_iload F dX0_offerKind_43 0 rfl ?_
          refine ok_aload_n F dX0_offerKind_45 1 rfl ?_
          refine ok_getr F dX0_offerKind_46 kF_X0_25 sh_183 rfl ?_
          refine ok_iload_n F dX0_offerKind_49 2 rfl ?_
          refine ok_iald (v := mem 188 a.toNat) F dX0_offerKind_50 sh_188 (by first | decide | assumption) (by omega) (by omega) rfl ?_
          refine ok_icmp_gt F 69 dX0_offerKind_51 (by decide) (by omega) (by omega) (fun c_9 => ?_) (fun c_9 => ?_)
          · refine ok_vret F G dX0_offerKind_69 ?_
            first
              | (refine ⟨rfl, fun c c1 c2 => by rw [rfl, mset_nka c1, mset_nka c2], fun x hx => by rw [rfl]; exact ⟨by rw [mset_ne (fun q => hx q.2), mset_nk (by decide)], by rw [mset_nk (by decide), mset_ne (fun q => hx q.2)]⟩, by rw [rfl, mset_nk (by decide), mset_eq, mset_eq]; omega, ?_⟩
                 have g9 : ∀ x, mem 189 x = if x = a.toNat then k else mem 189 x := fun x => by rw [rfl, mset_nk (by decide)]; by_cases e : x = a.toNat; (rw [if_pos e, e, mset_eq]); (rw [if_neg e, mset_ne (fun q => e q.2)])
                 have g8 : ∀ x, mem 188 x = if x = a.toNat then mem 188 (a - v).toNat + 1 else mem 188 x := fun x => by rw [rfl]; by_cases e : x = a.toNat; (rw [if_pos e, e, mset_eq]); (rw [if_neg e, mset_ne (fun q => e q.2), mset_nk (by decide)])
                 rw [ek]
                 refine Or.inr ⟨k.toNat, by omega, by rw [g9, if_pos rfl]; omega, by omega, by rw [es, g9, if_neg (by omega)]; omega, by rw [es, g8, g8, if_pos rfl, if_neg (by omega)], fun j hj hw hp => ?_⟩
                 by_cases ej : j = k.toNat
                 · subst ej; rw [es, g8, g8, if_pos rfl, if_neg (by omega)]; exact Or.inr ⟨rfl, Nat.le_refl _⟩
                 · by_cases wz : a.toNat - w j = a.toNat
                   · rw [g8, g8, wz, if_pos rfl]; omega
                   · rw [g9, if_neg wz] at hp; rw [g8, g8, if_pos rfl, if_neg wz]
                     rcases ho with ⟨o1, o2⟩ | ⟨K, k1, k2, k3, k4, k5, k6⟩
                     · have := o2 j (by omega) hw; omega
                     · have := k6 j (by omega) hw hp; omega)
              | (refine ⟨rfl, fun _ _ _ => rfl, fun _ _ => ⟨rfl, rfl⟩, ba, ?_⟩; rw [ek]; rcases ho with ⟨o1, o2⟩ | ⟨K, k1, k2, k3, k4, k5, k6⟩; (exfalso; omega); exact Or.inr ⟨K, by omega, k2, k3, k4, k5, fun j hj hw hp => by by_cases e : j = k.toNat; (subst e; rw [es]; left; omega); exact k6 j (by omega) hw hp⟩)
          · refine ok_aload_n F dX0_offerKind_54 1 rfl ?_
            refine ok_getr F dX0_offerKind_55 kF_X0_28 sh_183 rfl ?_
            refine ok_iload_n F dX0_offerKind_58 2 rfl ?_
            refine ok_iload_n F dX0_offerKind_59 3 rfl ?_
            refine ok_iast F dX0_offerKind_60 sh_189 (by first | decide | assumption) (by omega) (by omega) (fun m_10 e_11 => ?_)
            refine ok_aload_n F dX0_offerKind_61 1 rfl ?_
            refine ok_getr F dX0_offerKind_62 kF_X0_25 sh_183 rfl ?_
            refine ok_iload_n F dX0_offerKind_65 2 rfl ?_
            refine ok_iload F dX0_offerKind_66 0 rfl ?_
            refine ok_iast F dX0_offerKind_68 sh_188 (by first | decide | assumption) (by omega) (by omega) (fun m_12 e_13 => ?_)
            refine ok_vret F G dX0_offerKind_69 ?_
            first
              | (refine ⟨rfl, fun c c1 c2 => by rw [e_13, e_11, mset_nka c1, mset_nka c2], fun x hx => by rw [e_13, e_11]; exact ⟨by rw [mset_ne (fun q => hx q.2), mset_nk (by decide)], by rw [mset_nk (by decide), mset_ne (fun q => hx q.2)]⟩, by rw [e_13, e_11, mset_nk (by decide), mset_eq, mset_eq]; omega, ?_⟩
                 have g9 : ∀ x, m_12 189 x = if x = a.toNat then k else mem 189 x := fun x => by rw [e_13, e_11, mset_nk (by decide)]; by_cases e : x = a.toNat; (rw [if_pos e, e, mset_eq]); (rw [if_neg e, mset_ne (fun q => e q.2)])
                 have g8 : ∀ x, m_12 188 x = if x = a.toNat then mem 188 (a - v).toNat + 1 else mem 188 x := fun x => by rw [e_13, e_11]; by_cases e : x = a.toNat; (rw [if_pos e, e, mset_eq]); (rw [if_neg e, mset_ne (fun q => e q.2), mset_nk (by decide)])
                 rw [ek]
                 refine Or.inr ⟨k.toNat, by omega, by rw [g9, if_pos rfl]; omega, by omega, by rw [es, g9, if_neg (by omega)]; omega, by rw [es, g8, g8, if_pos rfl, if_neg (by omega)], fun j hj hw hp => ?_⟩
                 by_cases ej : j = k.toNat
                 · subst ej; rw [es, g8, g8, if_pos rfl, if_neg (by omega)]; exact Or.inr ⟨rfl, Nat.le_refl _⟩
                 · by_cases wz : a.toNat - w j = a.toNat
                   · rw [g8, g8, wz, if_pos rfl]; omega
                   · rw [g9, if_neg wz] at hp; rw [g8, g8, if_pos rfl, if_neg wz]
                     rcases ho with ⟨o1, o2⟩ | ⟨K, k1, k2, k3, k4, k5, k6⟩
                     · have := o2 j (by omega) hw; omega
                     · have := k6 j (by omega) hw hp; omega)
              | (refine ⟨rfl, fun _ _ _ => rfl, fun _ _ => ⟨rfl, rfl⟩, ba, ?_⟩; rw [ek]; rcases ho with ⟨o1, o2⟩ | ⟨K, k1, k2, k3, k4, k5, k6⟩; (exfalso; omega); exact Or.inr ⟨K, by omega, k2, k3, k4, k5, fun j hj hw hp => by by_cases e : j = k.toNat; (subst e; rw [es]; left; omega); exact k6 j (by omega) hw hp⟩)
      · refine ok_vret F G dX0_offerKind_21 ?_
        refine ⟨rfl, fun _ _ _ => rfl, fun _ _ => ⟨rfl, rfl⟩, ba, ?_⟩
        rw [ek]
        rcases ho with ⟨o1, o2⟩ | ⟨K, k1, k2, k3, k4, k5, k6⟩
        · exact Or.inl ⟨o1, fun j hj hw => by by_cases e : j = k.toNat; (subst e; first | (exfalso; omega) | (rw [es]; omega)); exact o2 j (by omega) hw⟩
        · exact Or.inr ⟨K, by omega, k2, k3, k4, k5, fun j hj hw hp => by by_cases e : j = k.toNat; (subst e; first | (exfalso; omega) | (rw [es] at hp; exfalso; omega)); exact k6 j (by omega) hw hp⟩
