/-! rows of the pure layer: the texts of the constant pools, whole rows copied, raw bits -/
theorem kW_cpL : Cond.methodLink RX7 326 arraycopyName ∈ Tbl := tb3 38 rfl rfl
theorem kW_cpN : Cond.native arraycopyName ∈ Tbl := tb3 40 rfl rfl
theorem kW_cpS : Cond.static arraycopyName ∈ Tbl := tb3 39 rfl rfl
theorem kW_cpI : Cond.initialized "java/lang/System" ∈ Tbl := tb1 15 rfl rfl
theorem kW_sV : Cond.fieldLink RJ0 9 "java/lang/String" "value" "[B" ∈ Tbl := tb7 45 rfl rfl
theorem kW_sC : Cond.fieldLink RJ0 15 "java/lang/String" "coder" "B" ∈ Tbl := tb7 46 rfl rfl
theorem kW_sK : Cond.fieldLink RJ0 38 "java/lang/String" "COMPACT_STRINGS" "Z" ∈ Tbl := tb2 156 rfl rfl
theorem kW_sP : Cond.fieldLink RJ0 1053 "jdk/internal/util/Preconditions" "SIOOBE_FORMATTER" "Ljava/util/function/BiFunction;" ∈ Tbl := tb2 176 rfl rfl
def yRaw : MethodName := ⟨"java/lang/Double", "doubleToRawLongBits", "(D)J"⟩
theorem kW_rL : Cond.methodLink "java/lang/Double" 134 yRaw ∈ Tbl := tb6 187 rfl rfl
theorem kW_rN : Cond.native yRaw ∈ Tbl := tb6 189 rfl rfl
theorem kW_rS : Cond.static yRaw ∈ Tbl := tb6 188 rfl rfl
theorem kW_rI : Cond.initialized "java/lang/Double" ∈ Tbl := tb1 17 rfl rfl
theorem wl_setM {ad : Nat → Nat} {aC : Nat → ClassId} {sh : List CS} {mem mem' : Mem} {k : Nat} {c : CS} {x : va_E} (h : sh[k]? = some c) (hx : x = cE ad aC mem' k c) (ho : ∀ a, a ≠ k → mem' a = mem a) : (wl ad aC sh mem).set k (ad k, x) = wl ad aC sh mem' := by
  apply List.ext_getElem?
  intro i
  unfold wl
  rw [List.getElem?_set, List.getElem?_mapIdx, List.getElem?_mapIdx, List.length_mapIdx]
  have hk : k < sh.length := (List.getElem?_eq_some_iff.mp h).1
  by_cases e : k = i
  · subst e
    rw [if_pos rfl, if_pos hk, h, hx]
    rfl
  · rw [if_neg e]
    cases hs : sh[i]? with
    | none => rfl
    | some d =>
      simp only [Option.map_some]
      have e1 : mem' i = mem i := ho i (fun q => e q.symm)
      have e2 : cE ad aC mem i d = cE ad aC mem' i d := by
        rcases d with ⟨ci, fs⟩ | ⟨t, n⟩ | ⟨t, rs⟩
        · have e3 : fE ad mem' i = fE ad mem i := by
            funext b f
            cases f <;> simp only [fE, e1]
          simp only [cE, e3]
        · unfold cE
          split <;> simp_all
        · rfl
      rw [e2]
theorem sw_ldcw {p : Program} {l : Launch} {e : Env} {R : Room} {s : State} {m : MethodId} {args : Array Value} {below : List Frame} {meth : Method} {c : Code} {T : State} {locs : List Loc} {cells slots : Nat} (X : Stand p l e R s m args below meth c T locs cells slots) (hx : p.tables.exec = Jvm.exec) {own tx : String} {ix a : Nat} (hown : s.vm.findClass own = some m.cls)
    (h1 : (Cond.stringRef own ix tx).before #[] s = true) (h2 : (Term.string own ix).eval #[] s none [] s = some (.ref a)) {g : JFrame} (hg : g.method = m) (hd : decode c.code g.pc = .ok (.ldc_w ix, 3)) :
    ∀ t, Steps p.tables e below (T.setTop { g with pc := g.pc + 3, stack := .ref a :: g.stack }) t → Steps p.tables e below (T.setTop g) t := by
  obtain ⟨kc, cf, i9, a9, hk, hcf, hcp, -, hr, hev⟩ := Cond.stringRef_spec hown h1
  cases h2.symm.trans hev
  obtain ⟨kc2, hk2, he⟩ := X.warmed.alike.2.2 _ _ hk
  have hr2 : kc2.resolved[ix]? = some (some (.string a)) := by
    rcases X.warmed.entry hk hk2 ix with q | ⟨q, -⟩
    · rw [q]; exact hr
    · rw [hr] at q; cases q
  intro t ht
  subst hg
  jvm_step X.here [hx, hd, ldc_w.wp_string (e := e) (s := T) (f := g) X.here.top hk2 (by rw [he]; exact hcf) hcp hr2]
  exact ht
section PR5
variable {sh : List CS} {X : KX} {cc : ByteArray} {nL : Nat} {own : String} {pc : Nat} {lv : List (Nat × PV)} {st : List PV} {mem : Mem} {dp : Nat}
theorem ok_copyi (F : Fx sh X cc nL own dp) {c t nc nt ix : Nat} {z : Int} (d : decode cc pc = .ok (.invokestatic ix, 3)) (hlk : Cond.methodLink own ix arraycopyName ∈ Tbl) (hc : sh[c]? = some (.inr (.inl (0, nc)))) (ht : sh[t]? = some (.inr (.inl (0, nt)))) (hz : 0 ≤ z) (hzb : z < 2147483648) (hz1 : z.toNat ≤ nc) (hz2 : z.toNat ≤ nt) (hd : 0 < dp) (hs8 : pslots st ≤ 8) (k : Ok sh X nL (pc + 3) lv st (cpyN mem c 0 t 0 z.toNat)) : Ok sh X nL pc lv (pI z :: pI 0 :: pR t :: pI 0 :: pR c :: st) mem := by
  obtain ⟨⟨p, l, e, R, s, m, args, below, meth, c9, Q⟩, D, ad, aC, adV, A, nc9, ns⟩ := X
  obtain ⟨hx, hb, hml, hown, hts, hK, hD, hA, hlocks, hN, hnc, hns, hW, hfr, hlo⟩ := F
  have hz9 : i32 z := ⟨by omega, hzb⟩
  have hn0 : ¬ Int32.ofInt z < 0 := by
    have h0 : (0 : Int32) = Int32.ofInt 0 := rfl
    rw [h0, i32_lt hz9 ⟨by decide, by decide⟩]
    omega
  have hcl : (Int32.ofInt z).toNatClampNeg = z.toNat := Int32.toNatClampNeg_ofInt_of_le hz9.1 hz9.2
  have hc0 : (Int32.ofInt 0).toNatClampNeg = 0 := rfl
  intro H locs ls hP hS hl
  have hw7 : nativeFrameWords "java/lang/System" "arraycopy" 5 = 7 := by decide
  have hsp : ((st.map (em ad)).map fun v => v.category).sum + (nativeFrameWords "java/lang/System" "arraycopy" 5 + 11) ≤ R.locals := by
    rw [em_map_category, hw7]
    omega
  refine va_copyi (sp := Int32.ofInt 0) (dp := Int32.ofInt 0) (n := Int32.ofInt z) hx hb (hml.trans hl.1.symm) hown (hts _ hlk) (hts _ kW_cpN) (hts _ kW_cpS) (hts _ kW_cpI) hK hP (hD mem) hS c t 0 0 (wl_at hc) (wl_at ht) rfl rfl rfl (by decide) (by decide) hn0 (by rw [hc0, hcl]; omega) (by rw [hc0, hcl]; omega) (fun _ _ => rfl) (by omega) hsp d (fun H1 locs1 hP1 hD1 hS1 => ?_)
  rw [hc0, hcl] at hP1
  rw [wl_setM (mem' := cpyN mem c 0 t 0 z.toNat) ht ?_ (fun a ha => by funext b; exact if_neg (fun q => ha q.1))] at hP1
  · exact k H1 locs1 ls hP1 hS1 hl
  · show _ = (.inl (aC 0, nt, .inl fun j => Int32.ofInt (cpyN mem c 0 t 0 z.toNat t j)) : va_E)
    congr 4
    funext j
    unfold va_cpy cpyN
    by_cases g : 0 ≤ j ∧ j < 0 + z.toNat
    · rw [if_pos g, if_pos ⟨rfl, g⟩]
    · rw [if_neg g, if_neg (fun q => g q.2)]
theorem ok_ldcs (F : Fx sh X cc nL own dp) {ix i : Nat} {tx : String} (d : decode cc pc = .ok (.ldc ix, 2)) (h : (own, ix, tx, i) ∈ sRef) (k : Ok sh X nL (pc + 2) lv (pR (1000 + i) :: st) mem) : Ok sh X nL pc lv st mem := by
  obtain ⟨⟨p, l, e, R, s, m, args, below, meth, c9, Q⟩, D, ad, aC, adV, A, nc9, ns⟩ := X
  obtain ⟨hx, hb, hml, hown, hts, hK, hD, hA, hlocks, hN, hnc, hns, hW, hfr, hlo⟩ := F
  intro H locs ls hP hS hl
  exact va_ldcS hx hb hown (hW.2.1 _ h) d (k H locs ls hP hS hl)
theorem ok_ldcsw (F : Fx sh X cc nL own dp) {ix i : Nat} {tx : String} (d : decode cc pc = .ok (.ldc_w ix, 3)) (h : (own, ix, tx, i) ∈ sRef) (k : Ok sh X nL (pc + 3) lv (pR (1000 + i) :: st) mem) : Ok sh X nL pc lv st mem := by
  obtain ⟨⟨p, l, e, R, s, m, args, below, meth, c9, Q⟩, D, ad, aC, adV, A, nc9, ns⟩ := X
  obtain ⟨hx, hb, hml, hown, hts, hK, hD, hA, hlocks, hN, hnc, hns, hW, hfr, hlo⟩ := F
  intro H locs ls hP hS hl T hT X
  obtain ⟨t, a1, b1⟩ := k H locs ls hP hS hl T hT X
  exact ⟨t, sw_ldcw X hx hown (hW.2.1 _ h).1 (hW.2.1 _ h).2 (g := F0 m pc ls (st.map (em ad))) rfl (by rw [hb]; exact d) t a1, b1⟩
theorem ok_sval (F : Fx sh X cc nL RJ0 dp) {i : Nat} (hi : i < 13) (d : decode cc pc = .ok (.getfield 9, 3)) (k : Ok sh X nL (pc + 3) lv (pR (2000 + i) :: st) mem) : Ok sh X nL pc lv (pR (1000 + i) :: st) mem := by
  obtain ⟨⟨p, l, e, R, s, m, args, below, meth, c9, Q⟩, D, ad, aC, adV, A, nc9, ns⟩ := X
  obtain ⟨hx, hb, hml, hown, hts, hK, hD, hA, hlocks, hN, hnc, hns, hW, hfr, hlo⟩ := F
  intro H locs ls hP hS hl
  exact vk_getf hx hb (hW.1.1 i hi).2.2.1 hS hown (hts _ kW_sV) (fun _ h => h) d (k H locs ls hP hS hl)
theorem ok_scod (F : Fx sh X cc nL RJ0 dp) {i : Nat} (hi : i < 13) (d : decode cc pc = .ok (.getfield 15, 3)) (k : Ok sh X nL (pc + 3) lv (pI 0 :: st) mem) : Ok sh X nL pc lv (pR (1000 + i) :: st) mem := by
  obtain ⟨⟨p, l, e, R, s, m, args, below, meth, c9, Q⟩, D, ad, aC, adV, A, nc9, ns⟩ := X
  obtain ⟨hx, hb, hml, hown, hts, hK, hD, hA, hlocks, hN, hnc, hns, hW, hfr, hlo⟩ := F
  intro H locs ls hP hS hl
  exact vk_getf hx hb (hW.1.1 i hi).2.1 hS hown (hts _ kW_sC) (fun _ h => h) d (k H locs ls hP hS hl)
theorem ok_sgets (F : Fx sh X cc nL RJ0 dp) (d : decode cc pc = .ok (.getstatic 38, 3)) (k : Ok sh X nL (pc + 3) lv (pI 1 :: st) mem) : Ok sh X nL pc lv st mem := by
  obtain ⟨⟨p, l, e, R, s, m, args, below, meth, c9, Q⟩, D, ad, aC, adV, A, nc9, ns⟩ := X
  obtain ⟨hx, hb, hml, hown, hts, hK, hD, hA, hlocks, hN, hnc, hns, hW, hfr, hlo⟩ := F
  intro H locs ls hP hS hl
  exact va_gets hx hb hW.2.2.1 hS hown (hts _ kW_sK) (fun _ h => h) d (k H locs ls hP hS hl)
theorem ok_sfmt (F : Fx sh X cc nL RJ0 dp) (d : decode cc pc = .ok (.getstatic 1053, 3)) (k : ∀ v : PV, (v = pN ∨ v = pR 3000) → Ok sh X nL (pc + 3) lv (v :: st) mem) : Ok sh X nL pc lv st mem := by
  obtain ⟨⟨p, l, e, R, s, m, args, below, meth, c9, Q⟩, D, ad, aC, adV, A, nc9, ns⟩ := X
  obtain ⟨hx, hb, hml, hown, hts, hK, hD, hA, hlocks, hN, hnc, hns, hW, hfr, hlo⟩ := F
  intro H locs ls hP hS hl
  rcases hW.2.2.2 with h | h
  · exact va_gets hx hb h hS hown (hts _ kW_sP) (fun _ h => h) d (k pN (Or.inl rfl) H locs ls hP hS hl)
  · exact va_gets hx hb h hS hown (hts _ kW_sP) (fun _ h => h) d (k (pR 3000) (Or.inr rfl) H locs ls hP hS hl)
theorem ok_stlen (F : Fx sh X cc nL own dp) {i : Nat} (hi : i < 13) {z : Int} (hz : ((sLen.getD i 0 : Nat) : Int) = z) (d : decode cc pc = .ok (.arraylength, 1)) (k : Ok sh X nL (pc + 1) lv (pI z :: st) mem) : Ok sh X nL pc lv (pR (2000 + i) :: st) mem := by
  subst hz
  obtain ⟨⟨p, l, e, R, s, m, args, below, meth, c9, Q⟩, D, ad, aC, adV, A, nc9, ns⟩ := X
  obtain ⟨hx, hb, hml, hown, hts, hK, hD, hA, hlocks, hN, hnc, hns, hW, hfr, hlo⟩ := F
  intro H locs ls hP hS hl
  exact va_tlen hx hb (hW.1.1 i hi).2.2.2 hS rfl d (k H locs ls hP hS hl)
theorem ok_stb (F : Fx sh X cc nL own dp) {i : Nat} {j : Int} (hi : i < 13) (h0 : 0 ≤ j) (h1 : j < sLen.getD i 0) (hL : sLen.getD i 0 < 2 ^ 31) {z : Int} (hz : ((sByt.getD i []).getD j.toNat 0).toInt = z) (d : decode cc pc = .ok (.baload, 1)) (k : Ok sh X nL (pc + 1) lv (pI z :: st) mem) : Ok sh X nL pc lv (pI j :: pR (2000 + i) :: st) mem := by
  subst hz
  obtain ⟨⟨p, l, e, R, s, m, args, below, meth, c9, Q⟩, D, ad, aC, adV, A, nc9, ns⟩ := X
  obtain ⟨hx, hb, hml, hown, hts, hK, hD, hA, hlocks, hN, hnc, hns, hW, hfr, hlo⟩ := F
  obtain ⟨hin, hj⟩ := i32_idx h0 h1 hL
  intro H locs ls hP hS hl
  have kk := k H locs ls hP hS hl
  refine va_tb hx hb (hW.1.1 i hi).2.2.2 hS hin ?_ d kk
  show Value.int _ = _
  rw [hj]
  show _ = Value.int (Int32.ofInt _)
  rw [Int32.ofInt_toInt]
/-- a call of a text's method -/
theorem ok_callt (F : Fx sh X cc nL own dp) {y : MethodName} {bytes : ByteArray} {maxL : Nat} {ret : Option FieldType} {dp' n ix i : Nat} {post : Option PV → Mem → Prop} (as : List PV) (d : decode cc pc = .ok (.invokevirtual ix, 3)) (M : mtOk y bytes maxL ret n) (hi : Cond.instanceMethod y ∈ Tbl) (hs : Cond.selects y.cls y y ∈ Tbl) (hlk : Cond.methodLink own ix y ∈ Tbl)
    (hC : y.cls = "java/lang/String") (h13 : i < 13) (hn : as.length = n) (hd : dp' < dp) (hst : pslots st ≤ 8) {st0 : List PV} (e0 : st0 = as.reverse ++ pR (1000 + i) :: st) (h : Ret sh X.1.2.1 y bytes maxL ret dp' (pR (1000 + i) :: as) mem post)
    (k : ∀ r mem', post r mem' → Ok sh X nL (pc + 3) lv (r.toList ++ st) mem') : Ok sh X nL pc lv st0 mem := by
  obtain ⟨⟨p, l, e, R, s, m, args, below, meth, c, Q⟩, D, ad, aC, adV, A, nc, ns⟩ := X
  have F' := F
  obtain ⟨hx, hb, hml, hown, hts, hK, hD, hA, hlocks, hN, hnc, hns, hW, hfr, hlo⟩ := F'
  obtain ⟨hcl, hco, hini, hL⟩ := M
  intro H locs ls hP hS hl
  have hrv := vk_recv hW.1 h13 hS
  rw [← hC] at hrv
  refine ok_after F hP hS hl (va_runV (C := y.cls) (index := ix) (n := n) (b := ad (1000 + i)) (As := as.map (em ad)) ⟨hx, hb, hml, hown, hts⟩ (h D ad aC adV H.size) (cwV n hts (tb_sub fun w hw => ?_) rfl rfl rfl ⟨rfl, hcl⟩ ⟨?_, ?_⟩) ⟨Wd.blind _, hrv, call_pre F hP hS⟩ rfl (by rw [List.length_map]; exact hn) hl.1 ?_ (lv_room (by rw [em_map_category]; exact hst)) d ⟨hnc, hns⟩) k
  · rcases List.mem_append.mp hw with hw | hw
    · rcases List.mem_cons.mp hw with rfl | hw
      · exact hlk
      rcases List.mem_cons.mp hw with rfl | hw
      · exact hi
      rcases List.mem_cons.mp hw with rfl | hw
      · exact hs
      rcases List.mem_cons.mp hw with rfl | hw
      · exact hini
      · cases hw
    · exact wsO_in hco w hw
  · show dp' + 1 ≤ R.frames
    omega
  · show 8 + (maxL + 11) + dp' * 100 ≤ R.locals
    omega
  · subst e0
    simp [em]
theorem ok_d2raw (F : Fx sh X cc nL "java/lang/Double" dp) {b : UInt64} (d : decode cc pc = .ok (.invokestatic 134, 3)) (hd : 0 < dp) (hs8 : pslots st ≤ 8) (k : Ok sh X nL (pc + 3) lv (pL b.toInt64.toInt :: st) mem) : Ok sh X nL pc lv (pD b :: st) mem := by
  obtain ⟨⟨p, l, e, R, s, m, args, below, meth, c9, Q⟩, D, ad, aC, adV, A, nc9, ns⟩ := X
  obtain ⟨hx, hb, hml, hown, hts, hK, hD, hA, hlocks, hN, hnc, hns, hW, hfr, hlo⟩ := F
  intro H locs ls hP hS hl
  have kk := k H locs ls hP hS hl
  simp only [List.map_cons, em, Int64.ofInt_toInt] at kk
  exact vn_d2l hx hb (hml.trans hl.1.symm) hown (hts _ kW_rL) (hts _ kW_rN) (hts _ kW_rS) (hts _ kW_rI) (by omega) (by rw [em_map_category]; omega) d kk
end PR5
/-! the texts' own members -/
theorem sAll : ∀ i, i < 13 → sLen.getD i 0 < 2 ^ 31 ∧ (sByt.getD i []).length = sLen.getD i 0 ∧ ∀ j, j < sLen.getD i 0 → ((sByt.getD i []).getD j 0).toInt = (sTx i).getD j 0 ∧ 0 ≤ ((sByt.getD i []).getD j 0).toInt ∧ ((sByt.getD i []).getD j 0).toInt < 128 := by decide +kernel
theorem i2c_iand {x : Int} (h : 0 ≤ x ∧ x < 128) : i2c (iand x 255) = x := by
  obtain ⟨n, rfl⟩ : ∃ n : Nat, x = n := ⟨x.toNat, by omega⟩
  have hn : n < 128 := by omega
  have : ∀ n : Nat, n < 128 → i2c (iand (n : Int) 255) = (n : Int) := by decide +kernel
  exact this n hn

theorem dJ0_charAt_5068e_0 : decode cJ0_charAt_5068e 0 = .ok (.aload_n 0, 1) := by decide +kernel
theorem dJ0_charAt_5068e_1 : decode cJ0_charAt_5068e 1 = .ok (.invokevirtual 492, 3) := by decide +kernel
theorem dJ0_charAt_5068e_4 : decode cJ0_charAt_5068e 4 = .ok (.ifCond .eq 12, 3) := by decide +kernel
theorem dJ0_charAt_5068e_7 : decode cJ0_charAt_5068e 7 = .ok (.aload_n 0, 1) := by decide +kernel
theorem dJ0_charAt_5068e_8 : decode cJ0_charAt_5068e 8 = .ok (.getfield 9, 3) := by decide +kernel
theorem dJ0_charAt_5068e_11 : decode cJ0_charAt_5068e 11 = .ok (.iload_n 1, 1) := by decide +kernel
theorem dJ0_charAt_5068e_12 : decode cJ0_charAt_5068e 12 = .ok (.invokestatic 495, 3) := by decide +kernel
theorem dJ0_charAt_5068e_15 : decode cJ0_charAt_5068e 15 = .ok (.ireturn, 1) := by decide +kernel
theorem dJ0_checkIndex_df160_0 : decode cJ0_checkIndex_df160 0 = .ok (.iload_n 0, 1) := by decide +kernel
theorem dJ0_checkIndex_df160_1 : decode cJ0_checkIndex_df160 1 = .ok (.iload_n 1, 1) := by decide +kernel
theorem dJ0_checkIndex_df160_2 : decode cJ0_checkIndex_df160 2 = .ok (.getstatic 1053, 3) := by decide +kernel
theorem dJ0_checkIndex_df160_5 : decode cJ0_checkIndex_df160 5 = .ok (.invokestatic 1059, 3) := by decide +kernel
theorem dJ0_checkIndex_df160_8 : decode cJ0_checkIndex_df160 8 = .ok (.pop, 1) := by decide +kernel
theorem dJ0_checkIndex_df160_9 : decode cJ0_checkIndex_df160 9 = .ok (.return_, 1) := by decide +kernel
theorem dJ0_coder_7d493_0 : decode cJ0_coder_7d493 0 = .ok (.getstatic 38, 3) := by decide +kernel
theorem dJ0_coder_7d493_3 : decode cJ0_coder_7d493 3 = .ok (.ifCond .eq 10, 3) := by decide +kernel
theorem dJ0_coder_7d493_6 : decode cJ0_coder_7d493 6 = .ok (.aload_n 0, 1) := by decide +kernel
theorem dJ0_coder_7d493_7 : decode cJ0_coder_7d493 7 = .ok (.getfield 15, 3) := by decide +kernel
theorem dJ0_coder_7d493_10 : decode cJ0_coder_7d493 10 = .ok (.goto 4, 3) := by decide +kernel
theorem dJ0_coder_7d493_14 : decode cJ0_coder_7d493 14 = .ok (.ireturn, 1) := by decide +kernel
theorem dJ0_isLatin1_aae02_0 : decode cJ0_isLatin1_aae02 0 = .ok (.getstatic 38, 3) := by decide +kernel
theorem dJ0_isLatin1_aae02_3 : decode cJ0_isLatin1_aae02 3 = .ok (.ifCond .eq 14, 3) := by decide +kernel
theorem dJ0_isLatin1_aae02_6 : decode cJ0_isLatin1_aae02 6 = .ok (.aload_n 0, 1) := by decide +kernel
theorem dJ0_isLatin1_aae02_7 : decode cJ0_isLatin1_aae02 7 = .ok (.getfield 15, 3) := by decide +kernel
theorem dJ0_isLatin1_aae02_10 : decode cJ0_isLatin1_aae02 10 = .ok (.ifCond .ne 7, 3) := by decide +kernel
theorem dJ0_isLatin1_aae02_13 : decode cJ0_isLatin1_aae02 13 = .ok (.iconst 1, 1) := by decide +kernel
theorem dJ0_isLatin1_aae02_14 : decode cJ0_isLatin1_aae02 14 = .ok (.goto 4, 3) := by decide +kernel
theorem dJ0_isLatin1_aae02_18 : decode cJ0_isLatin1_aae02 18 = .ok (.ireturn, 1) := by decide +kernel
theorem dJ0_length_8abf5_0 : decode cJ0_length_8abf5 0 = .ok (.aload_n 0, 1) := by decide +kernel
theorem dJ0_length_8abf5_1 : decode cJ0_length_8abf5 1 = .ok (.getfield 9, 3) := by decide +kernel
theorem dJ0_length_8abf5_4 : decode cJ0_length_8abf5 4 = .ok (.arraylength, 1) := by decide +kernel
theorem dJ0_length_8abf5_5 : decode cJ0_length_8abf5 5 = .ok (.aload_n 0, 1) := by decide +kernel
theorem dJ0_length_8abf5_6 : decode cJ0_length_8abf5 6 = .ok (.invokevirtual 335, 3) := by decide +kernel
theorem dJ0_length_8abf5_9 : decode cJ0_length_8abf5 9 = .ok (.ishr, 1) := by decide +kernel
theorem dJ0_length_8abf5_10 : decode cJ0_length_8abf5 10 = .ok (.ireturn, 1) := by decide +kernel
theorem dJ1_charAt_3b067_0 : decode cJ1_charAt_3b067 0 = .ok (.iload_n 1, 1) := by decide +kernel
theorem dJ1_charAt_3b067_1 : decode cJ1_charAt_3b067 1 = .ok (.aload_n 0, 1) := by decide +kernel
theorem dJ1_charAt_3b067_2 : decode cJ1_charAt_3b067 2 = .ok (.arraylength, 1) := by decide +kernel
theorem dJ1_charAt_3b067_3 : decode cJ1_charAt_3b067 3 = .ok (.invokestatic 9, 3) := by decide +kernel
theorem dJ1_charAt_3b067_6 : decode cJ1_charAt_3b067 6 = .ok (.aload_n 0, 1) := by decide +kernel
theorem dJ1_charAt_3b067_7 : decode cJ1_charAt_3b067 7 = .ok (.iload_n 1, 1) := by decide +kernel
theorem dJ1_charAt_3b067_8 : decode cJ1_charAt_3b067 8 = .ok (.baload, 1) := by decide +kernel
theorem dJ1_charAt_3b067_9 : decode cJ1_charAt_3b067 9 = .ok (.sipush 255, 3) := by decide +kernel
theorem dJ1_charAt_3b067_12 : decode cJ1_charAt_3b067 12 = .ok (.iand, 1) := by decide +kernel
theorem dJ1_charAt_3b067_13 : decode cJ1_charAt_3b067 13 = .ok (.i2c, 1) := by decide +kernel
theorem dJ1_charAt_3b067_14 : decode cJ1_charAt_3b067 14 = .ok (.ireturn, 1) := by decide +kernel
theorem dJ3_checkIndex_8e157_0 : decode cJ3_checkIndex_8e157 0 = .ok (.iload_n 0, 1) := by decide +kernel
theorem dJ3_checkIndex_8e157_1 : decode cJ3_checkIndex_8e157 1 = .ok (.ifCond .lt 8, 3) := by decide +kernel
theorem dJ3_checkIndex_8e157_4 : decode cJ3_checkIndex_8e157 4 = .ok (.iload_n 0, 1) := by decide +kernel
theorem dJ3_checkIndex_8e157_5 : decode cJ3_checkIndex_8e157 5 = .ok (.iload_n 1, 1) := by decide +kernel
theorem dJ3_checkIndex_8e157_6 : decode cJ3_checkIndex_8e157 6 = .ok (.if_icmp .lt 10, 3) := by decide +kernel
theorem dJ3_checkIndex_8e157_16 : decode cJ3_checkIndex_8e157 16 = .ok (.iload_n 0, 1) := by decide +kernel
theorem dJ3_checkIndex_8e157_17 : decode cJ3_checkIndex_8e157 17 = .ok (.ireturn, 1) := by decide +kernel
set_option maxRecDepth 100000 in
theorem m_J3_checkIndex (l : Launch) (a n : Int) (v : PV) (hv : v = pN ∨ v = pR 3000) (mem : Mem) (ha : 0 ≤ a ∧ a < n) (hn : n < 2147483648) : Ret shp l yJ3_checkIndex_8e157 cJ3_checkIndex_8e157 3 (some .int) 0 [pI a, pI n, v] mem (fun rv mv => rv = some (pI a) ∧ mem = mv) := by
  have hp : pargs 0 [pI a, pI n, v] = [(0, pI a), (1, pI n), (2, v)] := by rcases hv with rfl | rfl <;> rfl
  refine ret_of (by decide +kernel) (by rcases hv with rfl | rfl <;> exact Nat.le_of_ble_eq_true rfl) (fun X hX F G => ?_)
  rw [hp]
  refine ok_iload_n F dJ3_checkIndex_8e157_0 0 rfl ?_
  refine ok_if_lt F 9 dJ3_checkIndex_8e157_1 (by decide) (by omega) (fun c_1 => ?_) (fun c_1 => ?_)
  · exfalso; omega
  refine ok_iload_n F dJ3_checkIndex_8e157_4 0 rfl ?_
  refine ok_iload_n F dJ3_checkIndex_8e157_5 1 rfl ?_
  refine ok_icmp_lt F 16 dJ3_checkIndex_8e157_6 (by decide) (by omega) (by omega) (fun c_2 => ?_) (fun c_2 => ?_)
  · refine ok_iload_n F dJ3_checkIndex_8e157_16 0 rfl ?_
    refine ok_iret F G dJ3_checkIndex_8e157_17 ?_
    exact ⟨rfl, rfl⟩
  · exfalso; omega
set_option maxRecDepth 100000 in
theorem m_J0_checkIndex (l : Launch) (a n : Int) (mem : Mem) (ha : 0 ≤ a ∧ a < n) (hn : n < 2147483648) : Ret shp l yJ0_checkIndex_df160 cJ0_checkIndex_df160 2 none 1 [pI a, pI n] mem (fun rv mv => rv = none ∧ mem = mv) := by
  refine ret_of (by decide +kernel) (Nat.le_of_ble_eq_true rfl) (fun X hX F G => ?_)
  show Ok shp X 2 0 [(0, pI a), (1, pI n)] [] mem
  refine ok_iload_n F dJ0_checkIndex_df160_0 0 rfl ?_
  refine ok_iload_n F dJ0_checkIndex_df160_1 1 rfl ?_
  refine ok_sfmt F dJ0_checkIndex_df160_2 (fun v hv => ?_)
  refine ok_calls F [pI a, pI n, v] dJ0_checkIndex_df160_5 kM_J3_checkIndex_8e157 kS_J3_checkIndex_8e157 kL_J0_1059 rfl (by decide) (Nat.le_of_ble_eq_true rfl) rfl (m_J3_checkIndex _ a n v hv mem ha hn) ?_
  rintro _ _ ⟨rfl, rfl⟩
  refine ok_pop F dJ0_checkIndex_df160_8 rfl ?_
  refine ok_vret F G dJ0_checkIndex_df160_9 ?_
  exact ⟨rfl, rfl⟩
set_option maxRecDepth 100000 in
theorem m_J1_charAt (l : Launch) (i : Nat) (a : Int) (mem : Mem) (hi : i < 13) (ha : 0 ≤ a ∧ a < sLen.getD i 0) : Ret shp l yJ1_charAt_3b067 cJ1_charAt_3b067 2 (some .char) 2 [pR (2000 + i), pI a] mem (fun rv mv => rv = some (pI ((sTx i).getD a.toNat 0 : Nat)) ∧ mem = mv) := by
  obtain ⟨q1, q2, q3⟩ := sAll i hi
  obtain ⟨q4, q5, q6⟩ := q3 a.toNat (by omega)
  refine ret_of (by decide +kernel) (Nat.le_of_ble_eq_true rfl) (fun X hX F G => ?_)
  show Ok shp X 2 0 [(0, pR (2000 + i)), (1, pI a)] [] mem
  refine ok_iload_n F dJ1_charAt_3b067_0 1 rfl ?_
  refine ok_aload_n F dJ1_charAt_3b067_1 0 rfl ?_
  refine ok_stlen F hi rfl dJ1_charAt_3b067_2 ?_
  refine ok_calls F [pI a, pI (sLen.getD i 0 : Nat)] dJ1_charAt_3b067_3 kM_J0_checkIndex_df160 kS_J0_checkIndex_df160 kL_J1_9 rfl (by decide) (Nat.le_of_ble_eq_true rfl) rfl (m_J0_checkIndex _ a _ mem ha (by omega)) ?_
  rintro _ _ ⟨rfl, rfl⟩
  refine ok_aload_n F dJ1_charAt_3b067_6 0 rfl ?_
  refine ok_iload_n F dJ1_charAt_3b067_7 1 rfl ?_
  refine ok_stb F hi ha.1 ha.2 q1 rfl dJ1_charAt_3b067_8 ?_
  refine ok_sipush F dJ1_charAt_3b067_9 rfl ?_
  refine ok_iand F dJ1_charAt_3b067_12 ?_
  refine ok_i2c F dJ1_charAt_3b067_13 ?_
  rw [i2c_iand ⟨q5, q6⟩, q4]
  refine ok_zret F G dJ1_charAt_3b067_14 ?_ ⟨rfl, rfl⟩
  rw [q4] at q5 q6
  have h9 : ∀ n : Nat, n < 128 → narrow .char (.int (Int32.ofInt (n : Int))) = .int (Int32.ofInt (n : Int)) := by decide +kernel
  exact h9 _ (by omega)
set_option maxRecDepth 100000 in
theorem m_J0_isLatin1 (l : Launch) (i : Nat) (mem : Mem) (hi : i < 13) : Ret shp l yJ0_isLatin1_aae02 cJ0_isLatin1_aae02 1 (some .boolean) 0 [pR (1000 + i)] mem (fun rv mv => rv = some (pI 1) ∧ mem = mv) := by
  refine ret_of (by decide +kernel) (Nat.le_of_ble_eq_true rfl) (fun X hX F G => ?_)
  show Ok shp X 1 0 [(0, pR (1000 + i))] [] mem
  refine ok_sgets F dJ0_isLatin1_aae02_0 ?_
  refine ok_if_eq F 17 dJ0_isLatin1_aae02_3 (by decide) (by omega) (fun c_1 => ?_) (fun c_1 => ?_)
  · exfalso; omega
  refine ok_aload_n F dJ0_isLatin1_aae02_6 0 rfl ?_
  refine ok_scod F hi dJ0_isLatin1_aae02_7 ?_
  refine ok_if_ne F 17 dJ0_isLatin1_aae02_10 (by decide) (by omega) (fun c_2 => ?_) (fun c_2 => ?_)
  · exfalso; omega
  refine ok_iconst F dJ0_isLatin1_aae02_13 ?_
  refine ok_goto F 18 dJ0_isLatin1_aae02_14 (by decide) ?_
  refine ok_zret F G dJ0_isLatin1_aae02_18 rfl ⟨rfl, rfl⟩
set_option maxRecDepth 100000 in
theorem m_J0_coder (l : Launch) (i : Nat) (mem : Mem) (hi : i < 13) : Ret shp l yJ0_coder_7d493 cJ0_coder_7d493 1 (some .byte) 0 [pR (1000 + i)] mem (fun rv mv => rv = some (pI 0) ∧ mem = mv) := by
  refine ret_of (by decide +kernel) (Nat.le_of_ble_eq_true rfl) (fun X hX F G => ?_)
  show Ok shp X 1 0 [(0, pR (1000 + i))] [] mem
  refine ok_sgets F dJ0_coder_7d493_0 ?_
  refine ok_if_eq F 13 dJ0_coder_7d493_3 (by decide) (by omega) (fun c_1 => ?_) (fun c_1 => ?_)
  · exfalso; omega
  refine ok_aload_n F dJ0_coder_7d493_6 0 rfl ?_
  refine ok_scod F hi dJ0_coder_7d493_7 ?_
  refine ok_goto F 14 dJ0_coder_7d493_10 (by decide) ?_
  refine ok_zret F G dJ0_coder_7d493_14 rfl ⟨rfl, rfl⟩
theorem ishr_0 {x : Int} (h : i32 x) : ishr x 0 = x := by
  unfold ishr
  rw [show (Int32.ofInt 0 &&& 31 : Int32) = 0 from rfl]
  rw [show Int32.ofInt x >>> (0 : Int32) = Int32.ofInt x by simp]
  exact i32_toInt h
set_option maxRecDepth 100000 in
theorem m_J0_length (l : Launch) (i : Nat) (mem : Mem) (hi : i < 13) : Ret shp l yJ0_length_8abf5 cJ0_length_8abf5 1 (some .int) 1 [pR (1000 + i)] mem (fun rv mv => rv = some (pI (sLen.getD i 0 : Nat)) ∧ mem = mv) := by
  obtain ⟨q1, q2, q3⟩ := sAll i hi
  refine ret_of (by decide +kernel) (Nat.le_of_ble_eq_true rfl) (fun X hX F G => ?_)
  show Ok shp X 1 0 [(0, pR (1000 + i))] [] mem
  refine ok_aload_n F dJ0_length_8abf5_0 0 rfl ?_
  refine ok_sval F hi dJ0_length_8abf5_1 ?_
  refine ok_stlen F hi rfl dJ0_length_8abf5_4 ?_
  refine ok_aload_n F dJ0_length_8abf5_5 0 rfl ?_
  refine ok_callt F [] dJ0_length_8abf5_6 kM_J0_coder_7d493 kI_J0_coder_7d493 kV_J0_coder_7d493 kL_J0_335 rfl hi rfl (by decide) (Nat.le_of_ble_eq_true rfl) rfl (m_J0_coder _ i mem hi) ?_
  rintro _ _ ⟨rfl, rfl⟩
  refine ok_ishr F dJ0_length_8abf5_9 ?_
  rw [ishr_0 ⟨by omega, by omega⟩]
  refine ok_iret F G dJ0_length_8abf5_10 ⟨rfl, rfl⟩
set_option maxRecDepth 100000 in
theorem m_J0_charAt (l : Launch) (i : Nat) (a : Int) (mem : Mem) (hi : i < 13) (ha : 0 ≤ a ∧ a < sLen.getD i 0) : Ret shp l yJ0_charAt_5068e cJ0_charAt_5068e 2 (some .char) 3 [pR (1000 + i), pI a] mem (fun rv mv => rv = some (pI ((sTx i).getD a.toNat 0 : Nat)) ∧ mem = mv) := by
  obtain ⟨q1, q2, q3⟩ := sAll i hi
  obtain ⟨q4, q5, q6⟩ := q3 a.toNat (by omega)
  refine ret_of (by decide +kernel) (Nat.le_of_ble_eq_true rfl) (fun X hX F G => ?_)
  show Ok shp X 2 0 [(0, pR (1000 + i)), (1, pI a)] [] mem
  refine ok_aload_n F dJ0_charAt_5068e_0 0 rfl ?_
  refine ok_callt F [] dJ0_charAt_5068e_1 kM_J0_isLatin1_aae02 kI_J0_isLatin1_aae02 kV_J0_isLatin1_aae02 kL_J0_492 rfl hi rfl (by decide) (Nat.le_of_ble_eq_true rfl) rfl (m_J0_isLatin1 _ i mem hi) ?_
  rintro _ _ ⟨rfl, rfl⟩
  refine ok_if_eq F 16 dJ0_charAt_5068e_4 (by decide) (by omega) (fun c_1 => ?_) (fun c_1 => ?_)
  · exfalso; omega
  refine ok_aload_n F dJ0_charAt_5068e_7 0 rfl ?_
  refine ok_sval F hi dJ0_charAt_5068e_8 ?_
  refine ok_iload_n F dJ0_charAt_5068e_11 1 rfl ?_
  refine ok_calls F [pR (2000 + i), pI a] dJ0_charAt_5068e_12 kM_J1_charAt_3b067 kS_J1_charAt_3b067 kL_J0_495 rfl (by decide) (Nat.le_of_ble_eq_true rfl) rfl (m_J1_charAt _ i a mem hi ha) ?_
  rintro _ _ ⟨rfl, rfl⟩
  refine ok_zret F G dJ0_charAt_5068e_15 ?_ ⟨rfl, rfl⟩
  rw [q4] at q5 q6
  have h9 : ∀ n : Nat, n < 128 → narrow .char (.int (Int32.ofInt (n : Int))) = .int (Int32.ofInt (n : Int)) := by decide +kernel
  exact h9 _ (by omega)
