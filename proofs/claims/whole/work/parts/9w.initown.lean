/-! the class's own constructor: printed by a program of mine out of the claim's papers -/
/-- States one behind the other, each with its rows -/
def blkS (n : Nat) : Nat → List BS
  | 0 => []
  | k + 1 => blkS n k ++ (.inl (6, fs_X6 (n + 11 * k + 1)) :: nw_X6 (n + 11 * k + 1))
/-- a row of L States, of which k have been made -/
def rowR (n L k : Nat) : List (Option Nat) := (List.range L).map (fun i => if i < k then some (n + 11 * i) else none)
def extL (E1 E2 : List BS) (n L k : Nat) : List BS := E1 ++ (.inr (.inr (4, rowR n L k)) :: (E2 ++ blkS n k))
theorem blkS_len (n : Nat) : ∀ k, (blkS n k).length = 11 * k
  | 0 => rfl
  | k + 1 => by
    unfold blkS
    rw [List.length_append, blkS_len n k]
    show 11 * k + 11 = _
    omega
theorem rowR_len (n L k : Nat) : (rowR n L k).length = L := by
  unfold rowR
  rw [List.length_map, List.length_range]
theorem rowR_set {n L k : Nat} (hk : k < L) : (rowR n L k).set k (some (n + 11 * k)) = rowR n L (k + 1) := by
  apply List.ext_getElem?
  intro i
  rw [List.getElem?_set, rowR_len]
  unfold rowR
  rw [List.getElem?_map, List.getElem?_map]
  by_cases e : k = i
  · subst e
    rw [if_pos rfl, if_pos hk, List.getElem?_range hk]
    show _ = some (if k < k + 1 then some (n + 11 * k) else none)
    rw [if_pos (by omega)]
  · rw [if_neg e]
    by_cases hi : i < L
    · rw [List.getElem?_range hi]
      show some (if i < k then some (n + 11 * i) else none) = some (if i < k + 1 then some (n + 11 * i) else none)
      by_cases g : i < k
      · rw [if_pos g, if_pos (by omega)]
      · rw [if_neg g, if_neg (by omega)]
    · rw [List.getElem?_eq_none (by rw [List.length_range]; omega)]
      rfl
theorem extL_len {E1 E2 : List BS} {n L k a b : Nat} (h1 : E1.length = a) (h2 : E2.length = b) : (extL E1 E2 n L k).length = a + 1 + b + 11 * k := by
  unfold extL
  rw [List.length_append, List.length_cons, List.length_append, blkS_len, h1, h2]
  omega
section TS
variable {X : KX} {cc : ByteArray} {dp mc ms b0 : Nat} {bs : List BS} {h : Nat} {nc ns : Nat}
/-- one State more is put into its row -/
theorem tf_step (F : Bf X cc 2 RX7 dp mc ms b0) (hg : Ba X) {p tgt ixf jf : Nat} {off : Int} {fs : List PV} {E1 E2 : List BS} {n L k a b : Nat} (d1 : decode cc p = .ok (.aload_n 0, 1)) (d2 : decode cc (p + 1) = .ok (.getfield ixf, 3)) (d3 : decode cc (p + 4) = .ok (.iload_n 1, 1)) (d4 : decode cc (p + 5) = .ok (.new 7, 3)) (d5 : decode cc (p + 8) = .ok (.dup, 1)) (d6 : decode cc (p + 9) = .ok (.invokespecial 9, 3)) (d7 : decode cc (p + 12) = .ok (.aastore, 1)) (d8 : decode cc (p + 13) = .ok (.iinc 1 1, 3)) (d9 : decode cc (p + 16) = .ok (.goto off, 3)) (ht : ((p + 16 : Nat) : Int) + off = (tgt : Int))
    (hL7 : flOk RX7 ixf 7 jf RX7 TX7 18 tyX7) (hh : h < bs.length) (hf : fs[jf]? = some (pR (bs.length + a))) (h1 : E1.length = a) (h2 : E2.length = b) (hn : n = bs.length + (a + 1 + b)) (hk : k < L) (hL : L < 100) (hnc : nc = a + 1 + b + 11 * k) (hb : b0 = bs.length) (hc : nc + 11 ≤ mc) (hs : ns + 433 ≤ ms) (hd : 1 < dp)
    (K : Bk X 2 tgt [(1, pI ((k : Int) + 1)), (0, pR h)] [] (cur bs h (.inl (7, fs)) (extL E1 E2 n L (k + 1))) (nc + 11) (ns + 433)) : Bk X 2 p [(1, pI (k : Int)), (0, pR h)] [] (cur bs h (.inl (7, fs)) (extL E1 E2 n L k)) nc ns := by
  have hlen := extL_len (n := n) (L := L) (k := k) h1 h2
  refine bk_aload_n F hg d1 1 rfl ?_
  refine bk_get (v := pR (bs.length + a)) F d2 hL7 (cur_h hh) hf ?_
  refine bk_iload_n F d3 0 rfl ?_
  refine bc_new (ext' := extL E1 E2 n L k ++ [.inl (6, bl_X6)]) F d4 kC_X6 kG_X7_7 kN_X6 kZ_X6 bl_X6_ok rfl (by omega) (by omega) (j := a + 1 + b + 11 * k) hlen ?_
  refine bk_dup F d5 rfl ?_
  have hlen2 : (extL E1 E2 n L k ++ [(.inl (6, bl_X6) : BS)]).length = a + 1 + b + 11 * k + 1 := by rw [List.length_append, hlen]; rfl
  have hset : ∀ x : BS, (extL E1 E2 n L k ++ [(.inl (6, bl_X6) : BS)]).set (a + 1 + b + 11 * k) x = extL E1 E2 n L k ++ [x] := fun x => by
    rw [List.set_append_right _ _ (by omega), hlen, Nat.sub_self]
    rfl
  refine bc_call (ext' := extL E1 E2 n L k ++ (.inl (6, fs_X6 (n + 11 * k + 1)) :: nw_X6 (n + 11 * k + 1))) F d6 kM_X6_init kI_X6_init (host := RX7) (by decide +kernel) rfl hd (by omega) (by omega) (Nat.le_of_ble_eq_true rfl) i_X6 (j := a + 1 + b + 11 * k) (e := a + 1 + b + 11 * k + 1) hlen2 (by rw [List.getElem?_append_right (by omega), hlen, Nat.sub_self]; rfl) (by rw [hset, List.append_assoc, show bs.length + (a + 1 + b + 11 * k + 1) = n + 11 * k + 1 by omega]; rfl) ?_
  refine bk_aast (i := k) (rs := rowR n L k) (fs := fs_X6 (n + 11 * k + 1)) (B' := cur bs h (.inl (7, fs)) (extL E1 E2 n L (k + 1))) F d7 ?_ ?_ rfl (by rw [rowR_len]; exact hk) (by rw [rowR_len]; omega) ?_ ?_ ?_
  · rw [cur_e, List.getElem?_append_left (by omega)]
    unfold extL
    rw [List.getElem?_append_right (by omega), h1, Nat.sub_self]
    rfl
  · rw [cur_e, List.getElem?_append_right (by omega), hlen, Nat.sub_self]
    rfl
  · rw [cur_sete]
    congr 1
    unfold extL
    rw [List.append_assoc, List.set_append_right _ _ (by omega), h1, Nat.sub_self]
    show _ = E1 ++ (.inr (.inr (4, (rowR n L k).set k (some (bs.length + (a + 1 + b + 11 * k))))) :: (E2 ++ blkS n k ++ (.inl (6, fs_X6 (n + 11 * k + 1)) :: nw_X6 (n + 11 * k + 1))))
    rw [show bs.length + (a + 1 + b + 11 * k) = n + 11 * k by omega, rowR_set hk, List.append_assoc]
    rfl
  · rw [cur_len, List.length_append, hlen]
    show nc + 1 + 10 + b0 = bs.length + (a + 1 + b + 11 * k + 11)
    omega
  refine bk_iinc (lv' := [(1, pI ((k : Int) + 1)), (0, pR h)]) F d8 0 rfl (by decide) rfl ?_
  refine bk_goto F tgt d9 ht ?_
  exact K
end TS

theorem dX7_init_0 : decode cX7_init 0 = .ok (.aload_n 0, 1) := by decide +kernel
theorem dX7_init_1 : decode cX7_init 1 = .ok (.invokespecial 1, 3) := by decide +kernel
theorem dX7_init_4 : decode cX7_init 4 = .ok (.aload_n 0, 1) := by decide +kernel
theorem dX7_init_5 : decode cX7_init 5 = .ok (.new 7, 3) := by decide +kernel
theorem dX7_init_8 : decode cX7_init 8 = .ok (.dup, 1) := by decide +kernel
theorem dX7_init_9 : decode cX7_init 9 = .ok (.invokespecial 9, 3) := by decide +kernel
theorem dX7_init_12 : decode cX7_init 12 = .ok (.putfield 10, 3) := by decide +kernel
theorem dX7_init_15 : decode cX7_init 15 = .ok (.aload_n 0, 1) := by decide +kernel
theorem dX7_init_16 : decode cX7_init 16 = .ok (.new 16, 3) := by decide +kernel
theorem dX7_init_19 : decode cX7_init 19 = .ok (.dup, 1) := by decide +kernel
theorem dX7_init_20 : decode cX7_init 20 = .ok (.invokespecial 18, 3) := by decide +kernel
theorem dX7_init_23 : decode cX7_init 23 = .ok (.putfield 19, 3) := by decide +kernel
theorem dX7_init_26 : decode cX7_init 26 = .ok (.aload_n 0, 1) := by decide +kernel
theorem dX7_init_27 : decode cX7_init 27 = .ok (.aload_n 0, 1) := by decide +kernel
theorem dX7_init_28 : decode cX7_init 28 = .ok (.getfield 19, 3) := by decide +kernel
theorem dX7_init_31 : decode cX7_init 31 = .ok (.getfield 23, 3) := by decide +kernel
theorem dX7_init_34 : decode cX7_init 34 = .ok (.putfield 27, 3) := by decide +kernel
theorem dX7_init_37 : decode cX7_init 37 = .ok (.aload_n 0, 1) := by decide +kernel
theorem dX7_init_38 : decode cX7_init 38 = .ok (.bipush 10, 2) := by decide +kernel
theorem dX7_init_40 : decode cX7_init 40 = .ok (.anewarray 7, 3) := by decide +kernel
theorem dX7_init_43 : decode cX7_init 43 = .ok (.putfield 28, 3) := by decide +kernel
theorem dX7_init_46 : decode cX7_init 46 = .ok (.aload_n 0, 1) := by decide +kernel
theorem dX7_init_47 : decode cX7_init 47 = .ok (.iconst 2, 1) := by decide +kernel
theorem dX7_init_48 : decode cX7_init 48 = .ok (.anewarray 7, 3) := by decide +kernel
theorem dX7_init_51 : decode cX7_init 51 = .ok (.putfield 32, 3) := by decide +kernel
theorem dX7_init_54 : decode cX7_init 54 = .ok (.aload_n 0, 1) := by decide +kernel
theorem dX7_init_55 : decode cX7_init 55 = .ok (.new 35, 3) := by decide +kernel
theorem dX7_init_58 : decode cX7_init 58 = .ok (.dup, 1) := by decide +kernel
theorem dX7_init_59 : decode cX7_init 59 = .ok (.invokespecial 37, 3) := by decide +kernel
theorem dX7_init_62 : decode cX7_init 62 = .ok (.putfield 38, 3) := by decide +kernel
theorem dX7_init_65 : decode cX7_init 65 = .ok (.aload_n 0, 1) := by decide +kernel
theorem dX7_init_66 : decode cX7_init 66 = .ok (.aload_n 0, 1) := by decide +kernel
theorem dX7_init_67 : decode cX7_init 67 = .ok (.getfield 38, 3) := by decide +kernel
theorem dX7_init_70 : decode cX7_init 70 = .ok (.getfield 42, 3) := by decide +kernel
theorem dX7_init_73 : decode cX7_init 73 = .ok (.putfield 46, 3) := by decide +kernel
theorem dX7_init_76 : decode cX7_init 76 = .ok (.aload_n 0, 1) := by decide +kernel
theorem dX7_init_77 : decode cX7_init 77 = .ok (.aload_n 0, 1) := by decide +kernel
theorem dX7_init_78 : decode cX7_init 78 = .ok (.getfield 46, 3) := by decide +kernel
theorem dX7_init_81 : decode cX7_init 81 = .ok (.getfield 47, 3) := by decide +kernel
theorem dX7_init_84 : decode cX7_init 84 = .ok (.putfield 53, 3) := by decide +kernel
theorem dX7_init_87 : decode cX7_init 87 = .ok (.aload_n 0, 1) := by decide +kernel
theorem dX7_init_88 : decode cX7_init 88 = .ok (.new 54, 3) := by decide +kernel
theorem dX7_init_91 : decode cX7_init 91 = .ok (.dup, 1) := by decide +kernel
theorem dX7_init_92 : decode cX7_init 92 = .ok (.invokespecial 56, 3) := by decide +kernel
theorem dX7_init_95 : decode cX7_init 95 = .ok (.putfield 57, 3) := by decide +kernel
theorem dX7_init_98 : decode cX7_init 98 = .ok (.aload_n 0, 1) := by decide +kernel
theorem dX7_init_99 : decode cX7_init 99 = .ok (.sipush 2501, 3) := by decide +kernel
theorem dX7_init_102 : decode cX7_init 102 = .ok (.newarray .long, 2) := by decide +kernel
theorem dX7_init_104 : decode cX7_init 104 = .ok (.putfield 61, 3) := by decide +kernel
theorem dX7_init_107 : decode cX7_init 107 = .ok (.aload_n 0, 1) := by decide +kernel
theorem dX7_init_108 : decode cX7_init 108 = .ok (.bipush 8, 2) := by decide +kernel
theorem dX7_init_110 : decode cX7_init 110 = .ok (.newarray .int, 2) := by decide +kernel
theorem dX7_init_112 : decode cX7_init 112 = .ok (.putfield 65, 3) := by decide +kernel
theorem dX7_init_115 : decode cX7_init 115 = .ok (.aload_n 0, 1) := by decide +kernel
theorem dX7_init_116 : decode cX7_init 116 = .ok (.bipush 8, 2) := by decide +kernel
theorem dX7_init_118 : decode cX7_init 118 = .ok (.newarray .int, 2) := by decide +kernel
theorem dX7_init_120 : decode cX7_init 120 = .ok (.putfield 68, 3) := by decide +kernel
theorem dX7_init_123 : decode cX7_init 123 = .ok (.aload_n 0, 1) := by decide +kernel
theorem dX7_init_124 : decode cX7_init 124 = .ok (.bipush 8, 2) := by decide +kernel
theorem dX7_init_126 : decode cX7_init 126 = .ok (.newarray .int, 2) := by decide +kernel
theorem dX7_init_128 : decode cX7_init 128 = .ok (.putfield 71, 3) := by decide +kernel
theorem dX7_init_131 : decode cX7_init 131 = .ok (.aload_n 0, 1) := by decide +kernel
theorem dX7_init_132 : decode cX7_init 132 = .ok (.new 74, 3) := by decide +kernel
theorem dX7_init_135 : decode cX7_init 135 = .ok (.dup, 1) := by decide +kernel
theorem dX7_init_136 : decode cX7_init 136 = .ok (.invokespecial 76, 3) := by decide +kernel
theorem dX7_init_139 : decode cX7_init 139 = .ok (.putfield 77, 3) := by decide +kernel
theorem dX7_init_142 : decode cX7_init 142 = .ok (.iconst 0, 1) := by decide +kernel
theorem dX7_init_143 : decode cX7_init 143 = .ok (.istore_n 1, 1) := by decide +kernel
theorem dX7_init_144 : decode cX7_init 144 = .ok (.iload_n 1, 1) := by decide +kernel
theorem dX7_init_145 : decode cX7_init 145 = .ok (.bipush 10, 2) := by decide +kernel
theorem dX7_init_147 : decode cX7_init 147 = .ok (.if_icmp .ge 22, 3) := by decide +kernel
theorem dX7_init_150 : decode cX7_init 150 = .ok (.aload_n 0, 1) := by decide +kernel
theorem dX7_init_151 : decode cX7_init 151 = .ok (.getfield 28, 3) := by decide +kernel
theorem dX7_init_154 : decode cX7_init 154 = .ok (.iload_n 1, 1) := by decide +kernel
theorem dX7_init_155 : decode cX7_init 155 = .ok (.new 7, 3) := by decide +kernel
theorem dX7_init_158 : decode cX7_init 158 = .ok (.dup, 1) := by decide +kernel
theorem dX7_init_159 : decode cX7_init 159 = .ok (.invokespecial 9, 3) := by decide +kernel
theorem dX7_init_162 : decode cX7_init 162 = .ok (.aastore, 1) := by decide +kernel
theorem dX7_init_163 : decode cX7_init 163 = .ok (.iinc 1 1, 3) := by decide +kernel
theorem dX7_init_166 : decode cX7_init 166 = .ok (.goto (-22), 3) := by decide +kernel
theorem dX7_init_169 : decode cX7_init 169 = .ok (.iconst 0, 1) := by decide +kernel
theorem dX7_init_170 : decode cX7_init 170 = .ok (.istore_n 1, 1) := by decide +kernel
theorem dX7_init_171 : decode cX7_init 171 = .ok (.iload_n 1, 1) := by decide +kernel
theorem dX7_init_172 : decode cX7_init 172 = .ok (.iconst 2, 1) := by decide +kernel
theorem dX7_init_173 : decode cX7_init 173 = .ok (.if_icmp .ge 22, 3) := by decide +kernel
theorem dX7_init_176 : decode cX7_init 176 = .ok (.aload_n 0, 1) := by decide +kernel
theorem dX7_init_177 : decode cX7_init 177 = .ok (.getfield 32, 3) := by decide +kernel
theorem dX7_init_180 : decode cX7_init 180 = .ok (.iload_n 1, 1) := by decide +kernel
theorem dX7_init_181 : decode cX7_init 181 = .ok (.new 7, 3) := by decide +kernel
theorem dX7_init_184 : decode cX7_init 184 = .ok (.dup, 1) := by decide +kernel
theorem dX7_init_185 : decode cX7_init 185 = .ok (.invokespecial 9, 3) := by decide +kernel
theorem dX7_init_188 : decode cX7_init 188 = .ok (.aastore, 1) := by decide +kernel
theorem dX7_init_189 : decode cX7_init 189 = .ok (.iinc 1 1, 3) := by decide +kernel
theorem dX7_init_192 : decode cX7_init 192 = .ok (.goto (-21), 3) := by decide +kernel
theorem dX7_init_195 : decode cX7_init 195 = .ok (.return_, 1) := by decide +kernel
def fs_X7 (n : Nat) : List PV := [pR (n + 0), pR (n + 11), pR (n + 23), pI 0, pR (n + 24), pI 0, pI 0, pR (n + 25), pI 0, pR (n + 26), pR (n + 30), pR (n + 32), pR (n + 54), pR (n + 56), pR (n + 57), pR (n + 58), pR (n + 59), pR (n + 60)]
def e1_X7 (n : Nat) : List BS := [.inl (6, fs_X6 (n + 1)), .inr (.inl (0, 8)), .inr (.inl (0, 8)), .inr (.inl (0, 8)), .inr (.inl (0, 8)), .inr (.inl (0, 8)), .inr (.inl (0, 8)), .inr (.inl (0, 8)), .inr (.inl (0, 5)), .inr (.inl (0, 40)), .inr (.inl (0, 320)), .inl (4, fs_X4 (n + 12)), .inl (6, fs_X6 (n + 13)), .inr (.inl (0, 8)), .inr (.inl (0, 8)), .inr (.inl (0, 8)), .inr (.inl (0, 8)), .inr (.inl (0, 8)), .inr (.inl (0, 8)), .inr (.inl (0, 8)), .inr (.inl (0, 5)), .inr (.inl (0, 40)), .inr (.inl (0, 320)), .inr (.inl (0, 400))]
def e2_X7 (n : Nat) : List BS := [.inl (2, fs_X2 (n + 27)), .inr (.inl (0, 8)), .inr (.inl (0, 8)), .inr (.inl (0, 8)), .inl (0, fs_X0 (n + 31)), .inr (.inl (0, 8)), .inl (1, fs_X1 (n + 33)), .inr (.inl (0, 8)), .inr (.inl (0, 8)), .inr (.inl (0, 8)), .inr (.inr (5, (List.range 9).map (fun j => some (n + 36 + 1 + j)))), .inr (.inl (0, 4001)), .inr (.inl (0, 4001)), .inr (.inl (0, 4001)), .inr (.inl (0, 4001)), .inr (.inl (0, 4001)), .inr (.inl (0, 4001)), .inr (.inl (0, 4001)), .inr (.inl (0, 4001)), .inr (.inl (0, 4001)), .inr (.inl (0, 9)), .inr (.inl (0, 9)), .inr (.inl (0, 4001)), .inr (.inl (0, 4001)), .inr (.inl (0, 8)), .inr (.inl (0, 2501)), .inr (.inl (0, 2501)), .inr (.inl (0, 8)), .inl (3, fs_X3 (n + 55)), .inr (.inl (3, 40)), .inr (.inl (3, 2501)), .inr (.inl (0, 8)), .inr (.inl (0, 8)), .inr (.inl (0, 8)), .inl (5, fs_X5 (n + 61))]
def nw_X7 (n : Nat) : List BS := extL (e1_X7 n ++ [.inr (.inr (4, rowR (n + 61) 10 10))]) (e2_X7 n ++ blkS (n + 61) 10) (n + 171) 2 2
section TL
variable {X : KX} {b0 : Nat} {bs : List BS} {h : Nat}
theorem tf_loop1 (F : Bf X cX7_init 2 RX7 4 193 58191 b0) (hg : Ba X) (hh : h < bs.length) (hb : b0 = bs.length) : ∀ (r k : Nat), k + r = 10 → (Bk X 2 169 [(1, pI 10), (0, pR h)] [] (cur bs h (.inl (7, fs_X7 bs.length)) (extL (e1_X7 bs.length) (.inr (.inr (4, rowR (bs.length + 171) 2 0)) :: e2_X7 bs.length) (bs.length + 61) 10 10)) 171 57325) → Bk X 2 144 [(1, pI (k : Int)), (0, pR h)] [] (cur bs h (.inl (7, fs_X7 bs.length)) (extL (e1_X7 bs.length) (.inr (.inr (4, rowR (bs.length + 171) 2 0)) :: e2_X7 bs.length) (bs.length + 61) 10 k)) (61 + 11 * k) (52995 + 433 * k)
  | 0, k, hk, K => by
    obtain rfl : k = 10 := by omega
    refine bk_iload_n F dX7_init_144 0 rfl ?_
    refine bk_bipush F dX7_init_145 rfl ?_
    exact bk_icmp_ge F 169 dX7_init_147 (by decide) ⟨by decide, by decide⟩ ⟨by decide, by decide⟩ (fun _ => K) (fun q => absurd q (by decide))
  | r + 1, k, hk, K => by
    refine bk_iload_n F dX7_init_144 0 rfl ?_
    refine bk_bipush F dX7_init_145 rfl ?_
    refine bk_icmp_ge F 169 dX7_init_147 (by decide) ⟨by omega, by omega⟩ ⟨by decide, by decide⟩ (fun q => absurd q (by omega)) (fun _ => ?_)
    refine tf_step (k := k) (fs := fs_X7 bs.length) (nc := 61 + 11 * k) (ns := 52995 + 433 * k) (L := 10) (a := 24) (b := 36) (E1 := (e1_X7 bs.length)) (E2 := (.inr (.inr (4, rowR (bs.length + 171) 2 0)) :: e2_X7 bs.length)) F hg dX7_init_150 dX7_init_151 dX7_init_154 dX7_init_155 dX7_init_158 dX7_init_159 dX7_init_162 dX7_init_163 dX7_init_166 (tgt := 144) (by decide) kF_X7_28 hh (jf := 4) rfl (rfl) (rfl) rfl (by omega) (by decide) (by omega) hb (by omega) (by omega) (by decide) ?_
    have K2 := tf_loop1 F hg hh hb r (k + 1) (by omega) K
    rw [show 61 + 11 * (k + 1) = 61 + 11 * k + 11 by omega, show 52995 + 433 * (k + 1) = 52995 + 433 * k + 433 by omega] at K2
    exact K2
theorem tf_loop2 (F : Bf X cX7_init 2 RX7 4 193 58191 b0) (hg : Ba X) (hh : h < bs.length) (hb : b0 = bs.length) : ∀ (r k : Nat), k + r = 2 → (Bk X 2 195 [(1, pI 2), (0, pR h)] [] (cur bs h (.inl (7, fs_X7 bs.length)) (extL (e1_X7 bs.length ++ [.inr (.inr (4, rowR (bs.length + 61) 10 10))]) (e2_X7 bs.length ++ blkS (bs.length + 61) 10) (bs.length + 171) 2 2)) 193 58191) → Bk X 2 171 [(1, pI (k : Int)), (0, pR h)] [] (cur bs h (.inl (7, fs_X7 bs.length)) (extL (e1_X7 bs.length ++ [.inr (.inr (4, rowR (bs.length + 61) 10 10))]) (e2_X7 bs.length ++ blkS (bs.length + 61) 10) (bs.length + 171) 2 k)) (171 + 11 * k) (57325 + 433 * k)
  | 0, k, hk, K => by
    obtain rfl : k = 2 := by omega
    refine bk_iload_n F dX7_init_171 0 rfl ?_
    refine bk_iconst F dX7_init_172 ?_
    exact bk_icmp_ge F 195 dX7_init_173 (by decide) ⟨by decide, by decide⟩ ⟨by decide, by decide⟩ (fun _ => K) (fun q => absurd q (by decide))
  | r + 1, k, hk, K => by
    refine bk_iload_n F dX7_init_171 0 rfl ?_
    refine bk_iconst F dX7_init_172 ?_
    refine bk_icmp_ge F 195 dX7_init_173 (by decide) ⟨by omega, by omega⟩ ⟨by decide, by decide⟩ (fun q => absurd q (by omega)) (fun _ => ?_)
    refine tf_step (k := k) (fs := fs_X7 bs.length) (nc := 171 + 11 * k) (ns := 57325 + 433 * k) (L := 2) (a := 25) (b := 145) (E1 := (e1_X7 bs.length ++ [.inr (.inr (4, rowR (bs.length + 61) 10 10))])) (E2 := (e2_X7 bs.length ++ blkS (bs.length + 61) 10)) F hg dX7_init_176 dX7_init_177 dX7_init_180 dX7_init_181 dX7_init_184 dX7_init_185 dX7_init_188 dX7_init_189 dX7_init_192 (tgt := 171) (by decide) kF_X7_32 hh (jf := 7) rfl (by rw [List.length_append]; rfl) (by rw [List.length_append, blkS_len]; rfl) rfl (by omega) (by decide) (by omega) hb (by omega) (by omega) (by decide) ?_
    have K2 := tf_loop2 F hg hh hb r (k + 1) (by omega) K
    rw [show 171 + 11 * (k + 1) = 171 + 11 * k + 11 by omega, show 57325 + 433 * (k + 1) = 57325 + 433 * k + 433 by omega] at K2
    exact K2
end TL
theorem i_X7 (l : Launch) (bs : List BS) (h : Nat) (hh : bs[h]? = some (.inl (7, bl_X7))) : BRet l yX7_init cX7_init 2 4 193 58191 bs h (bs.set h (.inl (7, fs_X7 bs.length)) ++ nw_X7 bs.length) := by
  refine bret_of (by decide +kernel) rfl (by decide) (fun X hX F G => ?_)
  have hl : h < bs.length := (List.getElem?_eq_some_iff.mp hh).1
  have hb : bs.length = bs.length := rfl
  have hg := G.ad
  refine bk_start hh ?_
  refine bk_aload_n F hg dX7_init_0 0 rfl ?_
  refine bk_obj F dX7_init_1 kO_X7 kO_i kO_c (by decide) (by decide) ?_
  refine bk_aload_n F hg dX7_init_4 0 rfl ?_
  refine bc_new (ext' := [.inl (6, bl_X6)]) F dX7_init_5 kC_X6 kG_X7_7 kN_X6 kZ_X6 bl_X6_ok rfl (by decide) (Nat.le_of_ble_eq_true rfl) (j := 0) rfl ?_
  refine bk_dup F dX7_init_8 rfl ?_
  refine bc_call (ext' := [.inl (6, fs_X6 (bs.length + 1)), .inr (.inl (0, 8)), .inr (.inl (0, 8)), .inr (.inl (0, 8)), .inr (.inl (0, 8)), .inr (.inl (0, 8)), .inr (.inl (0, 8)), .inr (.inl (0, 8)), .inr (.inl (0, 5)), .inr (.inl (0, 40)), .inr (.inl (0, 320))]) F dX7_init_9 kM_X6_init kI_X6_init (host := RX7) (by decide +kernel) rfl (by decide) (by decide) (Nat.le_of_ble_eq_true rfl) (Nat.le_of_ble_eq_true rfl) i_X6 (j := 0) (e := 1) rfl rfl rfl ?_
  refine bc_putF (fs' := [pR (bs.length + 0), pN, pN, pI 0, pN, pI 0, pI 0, pN, pI 0, pN, pN, pN, pN, pN, pN, pN, pN, pN]) F G dX7_init_12 kF_X7_10 hl (nf := 18) rfl (by decide) rfl rfl (Or.inl ⟨_, rfl⟩) rfl (e := 11) rfl rfl hb ?_
  refine bk_aload_n F hg dX7_init_15 0 rfl ?_
  refine bc_new (ext' := [.inl (6, fs_X6 (bs.length + 1)), .inr (.inl (0, 8)), .inr (.inl (0, 8)), .inr (.inl (0, 8)), .inr (.inl (0, 8)), .inr (.inl (0, 8)), .inr (.inl (0, 8)), .inr (.inl (0, 8)), .inr (.inl (0, 5)), .inr (.inl (0, 40)), .inr (.inl (0, 320)), .inl (4, bl_X4)]) F dX7_init_16 kC_X4 kG_X7_16 kN_X4 kZ_X4 bl_X4_ok rfl (by decide) (Nat.le_of_ble_eq_true rfl) (j := 11) rfl ?_
  refine bk_dup F dX7_init_19 rfl ?_
  refine bc_call (ext' := [.inl (6, fs_X6 (bs.length + 1)), .inr (.inl (0, 8)), .inr (.inl (0, 8)), .inr (.inl (0, 8)), .inr (.inl (0, 8)), .inr (.inl (0, 8)), .inr (.inl (0, 8)), .inr (.inl (0, 8)), .inr (.inl (0, 5)), .inr (.inl (0, 40)), .inr (.inl (0, 320)), .inl (4, fs_X4 (bs.length + 12)), .inl (6, fs_X6 (bs.length + 13)), .inr (.inl (0, 8)), .inr (.inl (0, 8)), .inr (.inl (0, 8)), .inr (.inl (0, 8)), .inr (.inl (0, 8)), .inr (.inl (0, 8)), .inr (.inl (0, 8)), .inr (.inl (0, 5)), .inr (.inl (0, 40)), .inr (.inl (0, 320)), .inr (.inl (0, 400))]) F dX7_init_20 kM_X4_init kI_X4_init (host := RX7) (by decide +kernel) rfl (by decide) (by decide) (Nat.le_of_ble_eq_true rfl) (Nat.le_of_ble_eq_true rfl) i_X4 (j := 11) (e := 12) rfl rfl rfl ?_
  refine bc_putF (fs' := [pR (bs.length + 0), pR (bs.length + 11), pN, pI 0, pN, pI 0, pI 0, pN, pI 0, pN, pN, pN, pN, pN, pN, pN, pN, pN]) F G dX7_init_23 kF_X7_19 hl (nf := 18) rfl (by decide) rfl rfl (Or.inl ⟨_, rfl⟩) rfl (e := 24) rfl rfl hb ?_
  refine bk_aload_n F hg dX7_init_26 0 rfl ?_
  refine bk_aload_n F hg dX7_init_27 0 rfl ?_
  refine bk_get (v := pR (bs.length + 11)) F dX7_init_28 kF_X7_19 (cur_h hl) rfl ?_
  refine bk_get (v := pR (bs.length + 23)) F dX7_init_31 kF_X7_23 ((cur_e 11).trans rfl) rfl ?_
  refine bc_putF (fs' := [pR (bs.length + 0), pR (bs.length + 11), pR (bs.length + 23), pI 0, pN, pI 0, pI 0, pN, pI 0, pN, pN, pN, pN, pN, pN, pN, pN, pN]) F G dX7_init_34 kF_X7_27 hl (nf := 18) rfl (by decide) rfl rfl (Or.inr ⟨_, rfl⟩) rfl (e := 24) rfl rfl hb ?_
  refine bk_aload_n F hg dX7_init_37 0 rfl ?_
  refine bk_bipush F dX7_init_38 rfl ?_
  refine bc_anew (ext' := [.inl (6, fs_X6 (bs.length + 1)), .inr (.inl (0, 8)), .inr (.inl (0, 8)), .inr (.inl (0, 8)), .inr (.inl (0, 8)), .inr (.inl (0, 8)), .inr (.inl (0, 8)), .inr (.inl (0, 8)), .inr (.inl (0, 5)), .inr (.inl (0, 40)), .inr (.inl (0, 320)), .inl (4, fs_X4 (bs.length + 12)), .inl (6, fs_X6 (bs.length + 13)), .inr (.inl (0, 8)), .inr (.inl (0, 8)), .inr (.inl (0, 8)), .inr (.inl (0, 8)), .inr (.inl (0, 8)), .inr (.inl (0, 8)), .inr (.inl (0, 8)), .inr (.inl (0, 5)), .inr (.inl (0, 40)), .inr (.inl (0, 320)), .inr (.inl (0, 400)), .inr (.inr (4, List.replicate 10 none))]) (n := 10) F dX7_init_40 kG_X7_7 rfl (by decide) rfl (by decide) (Nat.le_of_ble_eq_true rfl) (j := 24) rfl ?_
  refine bc_putF (fs' := [pR (bs.length + 0), pR (bs.length + 11), pR (bs.length + 23), pI 0, pR (bs.length + 24), pI 0, pI 0, pN, pI 0, pN, pN, pN, pN, pN, pN, pN, pN, pN]) F G dX7_init_43 kF_X7_28 hl (nf := 18) rfl (by decide) rfl rfl (Or.inr ⟨_, rfl⟩) rfl (e := 25) rfl rfl hb ?_
  refine bk_aload_n F hg dX7_init_46 0 rfl ?_
  refine bk_iconst F dX7_init_47 ?_
  refine bc_anew (ext' := [.inl (6, fs_X6 (bs.length + 1)), .inr (.inl (0, 8)), .inr (.inl (0, 8)), .inr (.inl (0, 8)), .inr (.inl (0, 8)), .inr (.inl (0, 8)), .inr (.inl (0, 8)), .inr (.inl (0, 8)), .inr (.inl (0, 5)), .inr (.inl (0, 40)), .inr (.inl (0, 320)), .inl (4, fs_X4 (bs.length + 12)), .inl (6, fs_X6 (bs.length + 13)), .inr (.inl (0, 8)), .inr (.inl (0, 8)), .inr (.inl (0, 8)), .inr (.inl (0, 8)), .inr (.inl (0, 8)), .inr (.inl (0, 8)), .inr (.inl (0, 8)), .inr (.inl (0, 5)), .inr (.inl (0, 40)), .inr (.inl (0, 320)), .inr (.inl (0, 400)), .inr (.inr (4, List.replicate 10 none)), .inr (.inr (4, List.replicate 2 none))]) (n := 2) F dX7_init_48 kG_X7_7 rfl (by decide) rfl (by decide) (Nat.le_of_ble_eq_true rfl) (j := 25) rfl ?_
  refine bc_putF (fs' := [pR (bs.length + 0), pR (bs.length + 11), pR (bs.length + 23), pI 0, pR (bs.length + 24), pI 0, pI 0, pR (bs.length + 25), pI 0, pN, pN, pN, pN, pN, pN, pN, pN, pN]) F G dX7_init_51 kF_X7_32 hl (nf := 18) rfl (by decide) rfl rfl (Or.inr ⟨_, rfl⟩) rfl (e := 26) rfl rfl hb ?_
  refine bk_aload_n F hg dX7_init_54 0 rfl ?_
  refine bc_new (ext' := [.inl (6, fs_X6 (bs.length + 1)), .inr (.inl (0, 8)), .inr (.inl (0, 8)), .inr (.inl (0, 8)), .inr (.inl (0, 8)), .inr (.inl (0, 8)), .inr (.inl (0, 8)), .inr (.inl (0, 8)), .inr (.inl (0, 5)), .inr (.inl (0, 40)), .inr (.inl (0, 320)), .inl (4, fs_X4 (bs.length + 12)), .inl (6, fs_X6 (bs.length + 13)), .inr (.inl (0, 8)), .inr (.inl (0, 8)), .inr (.inl (0, 8)), .inr (.inl (0, 8)), .inr (.inl (0, 8)), .inr (.inl (0, 8)), .inr (.inl (0, 8)), .inr (.inl (0, 5)), .inr (.inl (0, 40)), .inr (.inl (0, 320)), .inr (.inl (0, 400)), .inr (.inr (4, List.replicate 10 none)), .inr (.inr (4, List.replicate 2 none)), .inl (2, bl_X2)]) F dX7_init_55 kC_X2 kG_X7_35 kN_X2 kZ_X2 bl_X2_ok rfl (by decide) (Nat.le_of_ble_eq_true rfl) (j := 26) rfl ?_
  refine bk_dup F dX7_init_58 rfl ?_
  refine bc_call (ext' := [.inl (6, fs_X6 (bs.length + 1)), .inr (.inl (0, 8)), .inr (.inl (0, 8)), .inr (.inl (0, 8)), .inr (.inl (0, 8)), .inr (.inl (0, 8)), .inr (.inl (0, 8)), .inr (.inl (0, 8)), .inr (.inl (0, 5)), .inr (.inl (0, 40)), .inr (.inl (0, 320)), .inl (4, fs_X4 (bs.length + 12)), .inl (6, fs_X6 (bs.length + 13)), .inr (.inl (0, 8)), .inr (.inl (0, 8)), .inr (.inl (0, 8)), .inr (.inl (0, 8)), .inr (.inl (0, 8)), .inr (.inl (0, 8)), .inr (.inl (0, 8)), .inr (.inl (0, 5)), .inr (.inl (0, 40)), .inr (.inl (0, 320)), .inr (.inl (0, 400)), .inr (.inr (4, List.replicate 10 none)), .inr (.inr (4, List.replicate 2 none)), .inl (2, fs_X2 (bs.length + 27)), .inr (.inl (0, 8)), .inr (.inl (0, 8)), .inr (.inl (0, 8)), .inl (0, fs_X0 (bs.length + 31)), .inr (.inl (0, 8)), .inl (1, fs_X1 (bs.length + 33)), .inr (.inl (0, 8)), .inr (.inl (0, 8)), .inr (.inl (0, 8)), .inr (.inr (5, (List.range 9).map (fun j => some (bs.length + 36 + 1 + j)))), .inr (.inl (0, 4001)), .inr (.inl (0, 4001)), .inr (.inl (0, 4001)), .inr (.inl (0, 4001)), .inr (.inl (0, 4001)), .inr (.inl (0, 4001)), .inr (.inl (0, 4001)), .inr (.inl (0, 4001)), .inr (.inl (0, 4001)), .inr (.inl (0, 9)), .inr (.inl (0, 9)), .inr (.inl (0, 4001)), .inr (.inl (0, 4001)), .inr (.inl (0, 8)), .inr (.inl (0, 2501)), .inr (.inl (0, 2501)), .inr (.inl (0, 8))]) F dX7_init_59 kM_X2_init kI_X2_init (host := RX7) (by decide +kernel) rfl (by decide) (by decide) (Nat.le_of_ble_eq_true rfl) (Nat.le_of_ble_eq_true rfl) i_X2 (j := 26) (e := 27) rfl rfl rfl ?_
  refine bc_putF (fs' := [pR (bs.length + 0), pR (bs.length + 11), pR (bs.length + 23), pI 0, pR (bs.length + 24), pI 0, pI 0, pR (bs.length + 25), pI 0, pR (bs.length + 26), pN, pN, pN, pN, pN, pN, pN, pN]) F G dX7_init_62 kF_X7_38 hl (nf := 18) rfl (by decide) rfl rfl (Or.inl ⟨_, rfl⟩) rfl (e := 54) rfl rfl hb ?_
  refine bk_aload_n F hg dX7_init_65 0 rfl ?_
  refine bk_aload_n F hg dX7_init_66 0 rfl ?_
  refine bk_get (v := pR (bs.length + 26)) F dX7_init_67 kF_X7_38 (cur_h hl) rfl ?_
  refine bk_get (v := pR (bs.length + 30)) F dX7_init_70 kF_X7_42 ((cur_e 26).trans rfl) rfl ?_
  refine bc_putF (fs' := [pR (bs.length + 0), pR (bs.length + 11), pR (bs.length + 23), pI 0, pR (bs.length + 24), pI 0, pI 0, pR (bs.length + 25), pI 0, pR (bs.length + 26), pR (bs.length + 30), pN, pN, pN, pN, pN, pN, pN]) F G dX7_init_73 kF_X7_46 hl (nf := 18) rfl (by decide) rfl rfl (Or.inl ⟨_, rfl⟩) rfl (e := 54) rfl rfl hb ?_
  refine bk_aload_n F hg dX7_init_76 0 rfl ?_
  refine bk_aload_n F hg dX7_init_77 0 rfl ?_
  refine bk_get (v := pR (bs.length + 30)) F dX7_init_78 kF_X7_46 (cur_h hl) rfl ?_
  refine bk_get (v := pR (bs.length + 32)) F dX7_init_81 kF_X7_47 ((cur_e 30).trans rfl) rfl ?_
  refine bc_putF (fs' := [pR (bs.length + 0), pR (bs.length + 11), pR (bs.length + 23), pI 0, pR (bs.length + 24), pI 0, pI 0, pR (bs.length + 25), pI 0, pR (bs.length + 26), pR (bs.length + 30), pR (bs.length + 32), pN, pN, pN, pN, pN, pN]) F G dX7_init_84 kF_X7_53 hl (nf := 18) rfl (by decide) rfl rfl (Or.inl ⟨_, rfl⟩) rfl (e := 54) rfl rfl hb ?_
  refine bk_aload_n F hg dX7_init_87 0 rfl ?_
  refine bc_new (ext' := [.inl (6, fs_X6 (bs.length + 1)), .inr (.inl (0, 8)), .inr (.inl (0, 8)), .inr (.inl (0, 8)), .inr (.inl (0, 8)), .inr (.inl (0, 8)), .inr (.inl (0, 8)), .inr (.inl (0, 8)), .inr (.inl (0, 5)), .inr (.inl (0, 40)), .inr (.inl (0, 320)), .inl (4, fs_X4 (bs.length + 12)), .inl (6, fs_X6 (bs.length + 13)), .inr (.inl (0, 8)), .inr (.inl (0, 8)), .inr (.inl (0, 8)), .inr (.inl (0, 8)), .inr (.inl (0, 8)), .inr (.inl (0, 8)), .inr (.inl (0, 8)), .inr (.inl (0, 5)), .inr (.inl (0, 40)), .inr (.inl (0, 320)), .inr (.inl (0, 400)), .inr (.inr (4, List.replicate 10 none)), .inr (.inr (4, List.replicate 2 none)), .inl (2, fs_X2 (bs.length + 27)), .inr (.inl (0, 8)), .inr (.inl (0, 8)), .inr (.inl (0, 8)), .inl (0, fs_X0 (bs.length + 31)), .inr (.inl (0, 8)), .inl (1, fs_X1 (bs.length + 33)), .inr (.inl (0, 8)), .inr (.inl (0, 8)), .inr (.inl (0, 8)), .inr (.inr (5, (List.range 9).map (fun j => some (bs.length + 36 + 1 + j)))), .inr (.inl (0, 4001)), .inr (.inl (0, 4001)), .inr (.inl (0, 4001)), .inr (.inl (0, 4001)), .inr (.inl (0, 4001)), .inr (.inl (0, 4001)), .inr (.inl (0, 4001)), .inr (.inl (0, 4001)), .inr (.inl (0, 4001)), .inr (.inl (0, 9)), .inr (.inl (0, 9)), .inr (.inl (0, 4001)), .inr (.inl (0, 4001)), .inr (.inl (0, 8)), .inr (.inl (0, 2501)), .inr (.inl (0, 2501)), .inr (.inl (0, 8)), .inl (3, bl_X3)]) F dX7_init_88 kC_X3 kG_X7_54 kN_X3 kZ_X3 bl_X3_ok rfl (by decide) (Nat.le_of_ble_eq_true rfl) (j := 54) rfl ?_
  refine bk_dup F dX7_init_91 rfl ?_
  refine bc_call (ext' := [.inl (6, fs_X6 (bs.length + 1)), .inr (.inl (0, 8)), .inr (.inl (0, 8)), .inr (.inl (0, 8)), .inr (.inl (0, 8)), .inr (.inl (0, 8)), .inr (.inl (0, 8)), .inr (.inl (0, 8)), .inr (.inl (0, 5)), .inr (.inl (0, 40)), .inr (.inl (0, 320)), .inl (4, fs_X4 (bs.length + 12)), .inl (6, fs_X6 (bs.length + 13)), .inr (.inl (0, 8)), .inr (.inl (0, 8)), .inr (.inl (0, 8)), .inr (.inl (0, 8)), .inr (.inl (0, 8)), .inr (.inl (0, 8)), .inr (.inl (0, 8)), .inr (.inl (0, 5)), .inr (.inl (0, 40)), .inr (.inl (0, 320)), .inr (.inl (0, 400)), .inr (.inr (4, List.replicate 10 none)), .inr (.inr (4, List.replicate 2 none)), .inl (2, fs_X2 (bs.length + 27)), .inr (.inl (0, 8)), .inr (.inl (0, 8)), .inr (.inl (0, 8)), .inl (0, fs_X0 (bs.length + 31)), .inr (.inl (0, 8)), .inl (1, fs_X1 (bs.length + 33)), .inr (.inl (0, 8)), .inr (.inl (0, 8)), .inr (.inl (0, 8)), .inr (.inr (5, (List.range 9).map (fun j => some (bs.length + 36 + 1 + j)))), .inr (.inl (0, 4001)), .inr (.inl (0, 4001)), .inr (.inl (0, 4001)), .inr (.inl (0, 4001)), .inr (.inl (0, 4001)), .inr (.inl (0, 4001)), .inr (.inl (0, 4001)), .inr (.inl (0, 4001)), .inr (.inl (0, 4001)), .inr (.inl (0, 9)), .inr (.inl (0, 9)), .inr (.inl (0, 4001)), .inr (.inl (0, 4001)), .inr (.inl (0, 8)), .inr (.inl (0, 2501)), .inr (.inl (0, 2501)), .inr (.inl (0, 8)), .inl (3, fs_X3 (bs.length + 55)), .inr (.inl (3, 40))]) F dX7_init_92 kM_X3_init kI_X3_init (host := RX7) (by decide +kernel) rfl (by decide) (by decide) (Nat.le_of_ble_eq_true rfl) (Nat.le_of_ble_eq_true rfl) i_X3 (j := 54) (e := 55) rfl rfl rfl ?_
  refine bc_putF (fs' := [pR (bs.length + 0), pR (bs.length + 11), pR (bs.length + 23), pI 0, pR (bs.length + 24), pI 0, pI 0, pR (bs.length + 25), pI 0, pR (bs.length + 26), pR (bs.length + 30), pR (bs.length + 32), pR (bs.length + 54), pN, pN, pN, pN, pN]) F G dX7_init_95 kF_X7_57 hl (nf := 18) rfl (by decide) rfl rfl (Or.inl ⟨_, rfl⟩) rfl (e := 56) rfl rfl hb ?_
  refine bk_aload_n F hg dX7_init_98 0 rfl ?_
  refine bk_sipush F dX7_init_99 rfl ?_
  refine bc_newarr (ext' := [.inl (6, fs_X6 (bs.length + 1)), .inr (.inl (0, 8)), .inr (.inl (0, 8)), .inr (.inl (0, 8)), .inr (.inl (0, 8)), .inr (.inl (0, 8)), .inr (.inl (0, 8)), .inr (.inl (0, 8)), .inr (.inl (0, 5)), .inr (.inl (0, 40)), .inr (.inl (0, 320)), .inl (4, fs_X4 (bs.length + 12)), .inl (6, fs_X6 (bs.length + 13)), .inr (.inl (0, 8)), .inr (.inl (0, 8)), .inr (.inl (0, 8)), .inr (.inl (0, 8)), .inr (.inl (0, 8)), .inr (.inl (0, 8)), .inr (.inl (0, 8)), .inr (.inl (0, 5)), .inr (.inl (0, 40)), .inr (.inl (0, 320)), .inr (.inl (0, 400)), .inr (.inr (4, List.replicate 10 none)), .inr (.inr (4, List.replicate 2 none)), .inl (2, fs_X2 (bs.length + 27)), .inr (.inl (0, 8)), .inr (.inl (0, 8)), .inr (.inl (0, 8)), .inl (0, fs_X0 (bs.length + 31)), .inr (.inl (0, 8)), .inl (1, fs_X1 (bs.length + 33)), .inr (.inl (0, 8)), .inr (.inl (0, 8)), .inr (.inl (0, 8)), .inr (.inr (5, (List.range 9).map (fun j => some (bs.length + 36 + 1 + j)))), .inr (.inl (0, 4001)), .inr (.inl (0, 4001)), .inr (.inl (0, 4001)), .inr (.inl (0, 4001)), .inr (.inl (0, 4001)), .inr (.inl (0, 4001)), .inr (.inl (0, 4001)), .inr (.inl (0, 4001)), .inr (.inl (0, 4001)), .inr (.inl (0, 9)), .inr (.inl (0, 9)), .inr (.inl (0, 4001)), .inr (.inl (0, 4001)), .inr (.inl (0, 8)), .inr (.inl (0, 2501)), .inr (.inl (0, 2501)), .inr (.inl (0, 8)), .inl (3, fs_X3 (bs.length + 55)), .inr (.inl (3, 40)), .inr (.inl (3, 2501))]) (n := 2501) F dX7_init_102 (by decide) kY_long rfl (by decide) rfl (by decide) (Nat.le_of_ble_eq_true rfl) (j := 56) rfl ?_
  refine bc_putF (fs' := [pR (bs.length + 0), pR (bs.length + 11), pR (bs.length + 23), pI 0, pR (bs.length + 24), pI 0, pI 0, pR (bs.length + 25), pI 0, pR (bs.length + 26), pR (bs.length + 30), pR (bs.length + 32), pR (bs.length + 54), pR (bs.length + 56), pN, pN, pN, pN]) F G dX7_init_104 kF_X7_61 hl (nf := 18) rfl (by decide) rfl rfl (Or.inr ⟨_, rfl⟩) rfl (e := 57) rfl rfl hb ?_
  refine bk_aload_n F hg dX7_init_107 0 rfl ?_
  refine bk_bipush F dX7_init_108 rfl ?_
  refine bc_newarr (ext' := [.inl (6, fs_X6 (bs.length + 1)), .inr (.inl (0, 8)), .inr (.inl (0, 8)), .inr (.inl (0, 8)), .inr (.inl (0, 8)), .inr (.inl (0, 8)), .inr (.inl (0, 8)), .inr (.inl (0, 8)), .inr (.inl (0, 5)), .inr (.inl (0, 40)), .inr (.inl (0, 320)), .inl (4, fs_X4 (bs.length + 12)), .inl (6, fs_X6 (bs.length + 13)), .inr (.inl (0, 8)), .inr (.inl (0, 8)), .inr (.inl (0, 8)), .inr (.inl (0, 8)), .inr (.inl (0, 8)), .inr (.inl (0, 8)), .inr (.inl (0, 8)), .inr (.inl (0, 5)), .inr (.inl (0, 40)), .inr (.inl (0, 320)), .inr (.inl (0, 400)), .inr (.inr (4, List.replicate 10 none)), .inr (.inr (4, List.replicate 2 none)), .inl (2, fs_X2 (bs.length + 27)), .inr (.inl (0, 8)), .inr (.inl (0, 8)), .inr (.inl (0, 8)), .inl (0, fs_X0 (bs.length + 31)), .inr (.inl (0, 8)), .inl (1, fs_X1 (bs.length + 33)), .inr (.inl (0, 8)), .inr (.inl (0, 8)), .inr (.inl (0, 8)), .inr (.inr (5, (List.range 9).map (fun j => some (bs.length + 36 + 1 + j)))), .inr (.inl (0, 4001)), .inr (.inl (0, 4001)), .inr (.inl (0, 4001)), .inr (.inl (0, 4001)), .inr (.inl (0, 4001)), .inr (.inl (0, 4001)), .inr (.inl (0, 4001)), .inr (.inl (0, 4001)), .inr (.inl (0, 4001)), .inr (.inl (0, 9)), .inr (.inl (0, 9)), .inr (.inl (0, 4001)), .inr (.inl (0, 4001)), .inr (.inl (0, 8)), .inr (.inl (0, 2501)), .inr (.inl (0, 2501)), .inr (.inl (0, 8)), .inl (3, fs_X3 (bs.length + 55)), .inr (.inl (3, 40)), .inr (.inl (3, 2501)), .inr (.inl (0, 8))]) (n := 8) F dX7_init_110 (by decide) kY_int rfl (by decide) rfl (by decide) (Nat.le_of_ble_eq_true rfl) (j := 57) rfl ?_
  refine bc_putF (fs' := [pR (bs.length + 0), pR (bs.length + 11), pR (bs.length + 23), pI 0, pR (bs.length + 24), pI 0, pI 0, pR (bs.length + 25), pI 0, pR (bs.length + 26), pR (bs.length + 30), pR (bs.length + 32), pR (bs.length + 54), pR (bs.length + 56), pR (bs.length + 57), pN, pN, pN]) F G dX7_init_112 kF_X7_65 hl (nf := 18) rfl (by decide) rfl rfl (Or.inr ⟨_, rfl⟩) rfl (e := 58) rfl rfl hb ?_
  refine bk_aload_n F hg dX7_init_115 0 rfl ?_
  refine bk_bipush F dX7_init_116 rfl ?_
  refine bc_newarr (ext' := [.inl (6, fs_X6 (bs.length + 1)), .inr (.inl (0, 8)), .inr (.inl (0, 8)), .inr (.inl (0, 8)), .inr (.inl (0, 8)), .inr (.inl (0, 8)), .inr (.inl (0, 8)), .inr (.inl (0, 8)), .inr (.inl (0, 5)), .inr (.inl (0, 40)), .inr (.inl (0, 320)), .inl (4, fs_X4 (bs.length + 12)), .inl (6, fs_X6 (bs.length + 13)), .inr (.inl (0, 8)), .inr (.inl (0, 8)), .inr (.inl (0, 8)), .inr (.inl (0, 8)), .inr (.inl (0, 8)), .inr (.inl (0, 8)), .inr (.inl (0, 8)), .inr (.inl (0, 5)), .inr (.inl (0, 40)), .inr (.inl (0, 320)), .inr (.inl (0, 400)), .inr (.inr (4, List.replicate 10 none)), .inr (.inr (4, List.replicate 2 none)), .inl (2, fs_X2 (bs.length + 27)), .inr (.inl (0, 8)), .inr (.inl (0, 8)), .inr (.inl (0, 8)), .inl (0, fs_X0 (bs.length + 31)), .inr (.inl (0, 8)), .inl (1, fs_X1 (bs.length + 33)), .inr (.inl (0, 8)), .inr (.inl (0, 8)), .inr (.inl (0, 8)), .inr (.inr (5, (List.range 9).map (fun j => some (bs.length + 36 + 1 + j)))), .inr (.inl (0, 4001)), .inr (.inl (0, 4001)), .inr (.inl (0, 4001)), .inr (.inl (0, 4001)), .inr (.inl (0, 4001)), .inr (.inl (0, 4001)), .inr (.inl (0, 4001)), .inr (.inl (0, 4001)), .inr (.inl (0, 4001)), .inr (.inl (0, 9)), .inr (.inl (0, 9)), .inr (.inl (0, 4001)), .inr (.inl (0, 4001)), .inr (.inl (0, 8)), .inr (.inl (0, 2501)), .inr (.inl (0, 2501)), .inr (.inl (0, 8)), .inl (3, fs_X3 (bs.length + 55)), .inr (.inl (3, 40)), .inr (.inl (3, 2501)), .inr (.inl (0, 8)), .inr (.inl (0, 8))]) (n := 8) F dX7_init_118 (by decide) kY_int rfl (by decide) rfl (by decide) (Nat.le_of_ble_eq_true rfl) (j := 58) rfl ?_
  refine bc_putF (fs' := [pR (bs.length + 0), pR (bs.length + 11), pR (bs.length + 23), pI 0, pR (bs.length + 24), pI 0, pI 0, pR (bs.length + 25), pI 0, pR (bs.length + 26), pR (bs.length + 30), pR (bs.length + 32), pR (bs.length + 54), pR (bs.length + 56), pR (bs.length + 57), pR (bs.length + 58), pN, pN]) F G dX7_init_120 kF_X7_68 hl (nf := 18) rfl (by decide) rfl rfl (Or.inr ⟨_, rfl⟩) rfl (e := 59) rfl rfl hb ?_
  refine bk_aload_n F hg dX7_init_123 0 rfl ?_
  refine bk_bipush F dX7_init_124 rfl ?_
  refine bc_newarr (ext' := [.inl (6, fs_X6 (bs.length + 1)), .inr (.inl (0, 8)), .inr (.inl (0, 8)), .inr (.inl (0, 8)), .inr (.inl (0, 8)), .inr (.inl (0, 8)), .inr (.inl (0, 8)), .inr (.inl (0, 8)), .inr (.inl (0, 5)), .inr (.inl (0, 40)), .inr (.inl (0, 320)), .inl (4, fs_X4 (bs.length + 12)), .inl (6, fs_X6 (bs.length + 13)), .inr (.inl (0, 8)), .inr (.inl (0, 8)), .inr (.inl (0, 8)), .inr (.inl (0, 8)), .inr (.inl (0, 8)), .inr (.inl (0, 8)), .inr (.inl (0, 8)), .inr (.inl (0, 5)), .inr (.inl (0, 40)), .inr (.inl (0, 320)), .inr (.inl (0, 400)), .inr (.inr (4, List.replicate 10 none)), .inr (.inr (4, List.replicate 2 none)), .inl (2, fs_X2 (bs.length + 27)), .inr (.inl (0, 8)), .inr (.inl (0, 8)), .inr (.inl (0, 8)), .inl (0, fs_X0 (bs.length + 31)), .inr (.inl (0, 8)), .inl (1, fs_X1 (bs.length + 33)), .inr (.inl (0, 8)), .inr (.inl (0, 8)), .inr (.inl (0, 8)), .inr (.inr (5, (List.range 9).map (fun j => some (bs.length + 36 + 1 + j)))), .inr (.inl (0, 4001)), .inr (.inl (0, 4001)), .inr (.inl (0, 4001)), .inr (.inl (0, 4001)), .inr (.inl (0, 4001)), .inr (.inl (0, 4001)), .inr (.inl (0, 4001)), .inr (.inl (0, 4001)), .inr (.inl (0, 4001)), .inr (.inl (0, 9)), .inr (.inl (0, 9)), .inr (.inl (0, 4001)), .inr (.inl (0, 4001)), .inr (.inl (0, 8)), .inr (.inl (0, 2501)), .inr (.inl (0, 2501)), .inr (.inl (0, 8)), .inl (3, fs_X3 (bs.length + 55)), .inr (.inl (3, 40)), .inr (.inl (3, 2501)), .inr (.inl (0, 8)), .inr (.inl (0, 8)), .inr (.inl (0, 8))]) (n := 8) F dX7_init_126 (by decide) kY_int rfl (by decide) rfl (by decide) (Nat.le_of_ble_eq_true rfl) (j := 59) rfl ?_
  refine bc_putF (fs' := [pR (bs.length + 0), pR (bs.length + 11), pR (bs.length + 23), pI 0, pR (bs.length + 24), pI 0, pI 0, pR (bs.length + 25), pI 0, pR (bs.length + 26), pR (bs.length + 30), pR (bs.length + 32), pR (bs.length + 54), pR (bs.length + 56), pR (bs.length + 57), pR (bs.length + 58), pR (bs.length + 59), pN]) F G dX7_init_128 kF_X7_71 hl (nf := 18) rfl (by decide) rfl rfl (Or.inr ⟨_, rfl⟩) rfl (e := 60) rfl rfl hb ?_
  refine bk_aload_n F hg dX7_init_131 0 rfl ?_
  refine bc_new (ext' := [.inl (6, fs_X6 (bs.length + 1)), .inr (.inl (0, 8)), .inr (.inl (0, 8)), .inr (.inl (0, 8)), .inr (.inl (0, 8)), .inr (.inl (0, 8)), .inr (.inl (0, 8)), .inr (.inl (0, 8)), .inr (.inl (0, 5)), .inr (.inl (0, 40)), .inr (.inl (0, 320)), .inl (4, fs_X4 (bs.length + 12)), .inl (6, fs_X6 (bs.length + 13)), .inr (.inl (0, 8)), .inr (.inl (0, 8)), .inr (.inl (0, 8)), .inr (.inl (0, 8)), .inr (.inl (0, 8)), .inr (.inl (0, 8)), .inr (.inl (0, 8)), .inr (.inl (0, 5)), .inr (.inl (0, 40)), .inr (.inl (0, 320)), .inr (.inl (0, 400)), .inr (.inr (4, List.replicate 10 none)), .inr (.inr (4, List.replicate 2 none)), .inl (2, fs_X2 (bs.length + 27)), .inr (.inl (0, 8)), .inr (.inl (0, 8)), .inr (.inl (0, 8)), .inl (0, fs_X0 (bs.length + 31)), .inr (.inl (0, 8)), .inl (1, fs_X1 (bs.length + 33)), .inr (.inl (0, 8)), .inr (.inl (0, 8)), .inr (.inl (0, 8)), .inr (.inr (5, (List.range 9).map (fun j => some (bs.length + 36 + 1 + j)))), .inr (.inl (0, 4001)), .inr (.inl (0, 4001)), .inr (.inl (0, 4001)), .inr (.inl (0, 4001)), .inr (.inl (0, 4001)), .inr (.inl (0, 4001)), .inr (.inl (0, 4001)), .inr (.inl (0, 4001)), .inr (.inl (0, 4001)), .inr (.inl (0, 9)), .inr (.inl (0, 9)), .inr (.inl (0, 4001)), .inr (.inl (0, 4001)), .inr (.inl (0, 8)), .inr (.inl (0, 2501)), .inr (.inl (0, 2501)), .inr (.inl (0, 8)), .inl (3, fs_X3 (bs.length + 55)), .inr (.inl (3, 40)), .inr (.inl (3, 2501)), .inr (.inl (0, 8)), .inr (.inl (0, 8)), .inr (.inl (0, 8)), .inl (5, bl_X5)]) F dX7_init_132 kC_X5 kG_X7_74 kN_X5 kZ_X5 bl_X5_ok rfl (by decide) (Nat.le_of_ble_eq_true rfl) (j := 60) rfl ?_
  refine bk_dup F dX7_init_135 rfl ?_
  refine bc_call (ext' := [.inl (6, fs_X6 (bs.length + 1)), .inr (.inl (0, 8)), .inr (.inl (0, 8)), .inr (.inl (0, 8)), .inr (.inl (0, 8)), .inr (.inl (0, 8)), .inr (.inl (0, 8)), .inr (.inl (0, 8)), .inr (.inl (0, 5)), .inr (.inl (0, 40)), .inr (.inl (0, 320)), .inl (4, fs_X4 (bs.length + 12)), .inl (6, fs_X6 (bs.length + 13)), .inr (.inl (0, 8)), .inr (.inl (0, 8)), .inr (.inl (0, 8)), .inr (.inl (0, 8)), .inr (.inl (0, 8)), .inr (.inl (0, 8)), .inr (.inl (0, 8)), .inr (.inl (0, 5)), .inr (.inl (0, 40)), .inr (.inl (0, 320)), .inr (.inl (0, 400)), .inr (.inr (4, List.replicate 10 none)), .inr (.inr (4, List.replicate 2 none)), .inl (2, fs_X2 (bs.length + 27)), .inr (.inl (0, 8)), .inr (.inl (0, 8)), .inr (.inl (0, 8)), .inl (0, fs_X0 (bs.length + 31)), .inr (.inl (0, 8)), .inl (1, fs_X1 (bs.length + 33)), .inr (.inl (0, 8)), .inr (.inl (0, 8)), .inr (.inl (0, 8)), .inr (.inr (5, (List.range 9).map (fun j => some (bs.length + 36 + 1 + j)))), .inr (.inl (0, 4001)), .inr (.inl (0, 4001)), .inr (.inl (0, 4001)), .inr (.inl (0, 4001)), .inr (.inl (0, 4001)), .inr (.inl (0, 4001)), .inr (.inl (0, 4001)), .inr (.inl (0, 4001)), .inr (.inl (0, 4001)), .inr (.inl (0, 9)), .inr (.inl (0, 9)), .inr (.inl (0, 4001)), .inr (.inl (0, 4001)), .inr (.inl (0, 8)), .inr (.inl (0, 2501)), .inr (.inl (0, 2501)), .inr (.inl (0, 8)), .inl (3, fs_X3 (bs.length + 55)), .inr (.inl (3, 40)), .inr (.inl (3, 2501)), .inr (.inl (0, 8)), .inr (.inl (0, 8)), .inr (.inl (0, 8)), .inl (5, fs_X5 (bs.length + 61))]) F dX7_init_136 kM_X5_init kI_X5_init (host := RX7) (by decide +kernel) rfl (by decide) (by decide) (Nat.le_of_ble_eq_true rfl) (Nat.le_of_ble_eq_true rfl) i_X5 (j := 60) (e := 61) rfl rfl rfl ?_
  refine bc_putF (fs' := [pR (bs.length + 0), pR (bs.length + 11), pR (bs.length + 23), pI 0, pR (bs.length + 24), pI 0, pI 0, pR (bs.length + 25), pI 0, pR (bs.length + 26), pR (bs.length + 30), pR (bs.length + 32), pR (bs.length + 54), pR (bs.length + 56), pR (bs.length + 57), pR (bs.length + 58), pR (bs.length + 59), pR (bs.length + 60)]) F G dX7_init_139 kF_X7_77 hl (nf := 18) rfl (by decide) rfl rfl (Or.inl ⟨_, rfl⟩) rfl (e := 61) rfl rfl hb ?_
  refine bk_iconst F dX7_init_142 ?_
  refine bk_istore_n (lv' := [(1, pI 0), (0, pR h)]) F dX7_init_143 (by decide) rfl ?_
  refine tf_loop1 F hg hl rfl 10 0 rfl ?_
  refine bk_iconst F dX7_init_169 ?_
  refine bk_istore_n (lv' := [(1, pI 0), (0, pR h)]) F dX7_init_170 (by decide) rfl ?_
  have e2 : extL (e1_X7 bs.length) (.inr (.inr (4, rowR (bs.length + 171) 2 0)) :: e2_X7 bs.length) (bs.length + 61) 10 10 = (extL (e1_X7 bs.length ++ [.inr (.inr (4, rowR (bs.length + 61) 10 10))]) (e2_X7 bs.length ++ blkS (bs.length + 61) 10) (bs.length + 171) 2 0) := by
    unfold extL
    rw [List.append_assoc]
    show e1_X7 bs.length ++ (.inr (.inr (4, rowR (bs.length + 61) 10 10)) :: (.inr (.inr (4, rowR (bs.length + 171) 2 0)) :: (e2_X7 bs.length ++ blkS (bs.length + 61) 10))) = e1_X7 bs.length ++ (.inr (.inr (4, rowR (bs.length + 61) 10 10)) :: (.inr (.inr (4, rowR (bs.length + 171) 2 0)) :: (e2_X7 bs.length ++ blkS (bs.length + 61) 10 ++ [])))
    rw [List.append_nil]
  rw [e2]
  refine tf_loop2 F hg hl rfl 2 0 rfl ?_
  exact bk_ret F G dX7_init_195
