/-! where the law begins: words of the tables, printed by a program of mine out of the claim's papers -/
theorem tn1 {w : Cond} (i : Nat) (h : tables_1_1[i]? = some w) : w ∈ lw_tbl := List.mem_append_right _ (show w ∈ tables_1 from List.mem_append_left _ (List.mem_of_getElem? h))
theorem tn2 {w : Cond} (i : Nat) (h : tables_1_2[i]? = some w) : w ∈ lw_tbl := List.mem_append_right _ (show w ∈ tables_1 from List.mem_append_right _ (List.mem_append_left _ (List.mem_of_getElem? h)))
theorem tn3 {w : Cond} (i : Nat) (h : tables_1_3[i]? = some w) : w ∈ lw_tbl := List.mem_append_right _ (show w ∈ tables_1 from List.mem_append_right _ (List.mem_append_right _ (List.mem_append_left _ (List.mem_of_getElem? h))))
theorem tn4 {w : Cond} (i : Nat) (h : tables_1_4[i]? = some w) : w ∈ lw_tbl := List.mem_append_right _ (show w ∈ tables_1 from List.mem_append_right _ (List.mem_append_right _ (List.mem_append_right _ (List.mem_append_left _ (List.mem_of_getElem? h)))))
theorem tn5 {w : Cond} (i : Nat) (h : tables_1_5[i]? = some w) : w ∈ lw_tbl := List.mem_append_right _ (show w ∈ tables_1 from List.mem_append_right _ (List.mem_append_right _ (List.mem_append_right _ (List.mem_append_right _ (List.mem_append_left _ (List.mem_of_getElem? h))))))
theorem tn6 {w : Cond} (i : Nat) (h : tables_1_6[i]? = some w) : w ∈ lw_tbl := List.mem_append_right _ (show w ∈ tables_1 from List.mem_append_right _ (List.mem_append_right _ (List.mem_append_right _ (List.mem_append_right _ (List.mem_append_right _ (List.mem_append_left _ (List.mem_of_getElem? h)))))))
theorem tn7 {w : Cond} (i : Nat) (h : tables_1_7[i]? = some w) : w ∈ lw_tbl := List.mem_append_right _ (show w ∈ tables_1 from List.mem_append_right _ (List.mem_append_right _ (List.mem_append_right _ (List.mem_append_right _ (List.mem_append_right _ (List.mem_append_right _ ((List.mem_of_getElem? h))))))))
section BG
theorem nestB_at {b : Nat} {s : State} (hts : ∀ w ∈ lw_tbl, w.before #[Value.ref b] s = true) : ∀ w ∈ nestB, va_Nw w s := by
  intro w hw
  unfold nestB at hw
  rcases List.mem_cons.mp hw with rfl | hw
  · exact va_Nw.of rfl (hts _ (tn1 28 rfl))
  rcases List.mem_cons.mp hw with rfl | hw
  · exact va_Nw.of rfl (hts _ (tn1 100 rfl))
  rcases List.mem_cons.mp hw with rfl | hw
  · exact va_Nw.of rfl (hts _ (tn1 105 rfl))
  rcases List.mem_cons.mp hw with rfl | hw
  · exact va_Nw.of rfl (hts _ (tn1 136 rfl))
  rcases List.mem_cons.mp hw with rfl | hw
  · exact va_Nw.of rfl (hts _ (tn1 142 rfl))
  rcases List.mem_cons.mp hw with rfl | hw
  · exact va_Nw.of rfl (hts _ (tn1 148 rfl))
  rcases List.mem_cons.mp hw with rfl | hw
  · exact va_Nw.of rfl (hts _ (tn2 15 rfl))
  rcases List.mem_cons.mp hw with rfl | hw
  · exact va_Nw.of rfl (hts _ (tn2 26 rfl))
  · cases hw
theorem nestW_at {b : Nat} {s : State} (hts : ∀ w ∈ lw_tbl, w.before #[Value.ref b] s = true) : ∀ w ∈ nestW, va_Nw w s := by
  intro w hw
  unfold nestW at hw
  rcases List.mem_cons.mp hw with rfl | hw
  · exact va_Nw.of rfl (hts _ (tn3 87 rfl))
  rcases List.mem_cons.mp hw with rfl | hw
  · exact va_Nw.of rfl (hts _ (tn3 166 rfl))
  rcases List.mem_cons.mp hw with rfl | hw
  · exact va_Nw.of rfl (hts _ (tn3 34 rfl))
  · cases hw
theorem kR_X4_90 : Cond.stringRef RX4 90 "kinds" ∈ lw_tbl := tn2 143 rfl
theorem kR_X4_104 : Cond.stringRef RX4 104 "float" ∈ lw_tbl := tn2 215 rfl
theorem kR_X4_109 : Cond.stringRef RX4 109 "purse" ∈ lw_tbl := tn2 224 rfl
theorem kR_X4_111 : Cond.stringRef RX4 111 "limit" ∈ lw_tbl := tn2 225 rfl
theorem kR_X4_113 : Cond.stringRef RX4 113 "bag" ∈ lw_tbl := tn2 226 rfl
theorem kR_X4_115 : Cond.stringRef RX4 115 "day" ∈ lw_tbl := tn2 227 rfl
theorem kR_X4_120 : Cond.stringRef RX4 120 "sale" ∈ lw_tbl := tn3 4 rfl
theorem kR_X5_24 : Cond.stringRef RX5 24 "kinds" ∈ lw_tbl := tn4 28 rfl
theorem kR_X5_33 : Cond.stringRef RX5 33 ";float" ∈ lw_tbl := tn4 47 rfl
theorem kR_X5_38 : Cond.stringRef RX5 38 ";purse" ∈ lw_tbl := tn4 48 rfl
theorem kR_X5_43 : Cond.stringRef RX5 43 ";limit" ∈ lw_tbl := tn4 49 rfl
theorem kR_X5_48 : Cond.stringRef RX5 48 ";bag" ∈ lw_tbl := tn4 50 rfl
theorem kR_X5_56 : Cond.stringRef RX5 56 ";day" ∈ lw_tbl := tn4 51 rfl
theorem kR_X5_90 : Cond.stringRef RX5 90 ";sale " ∈ lw_tbl := tn4 58 rfl
theorem kR_X8_145 : Cond.stringRef RX8 145 "float" ∈ lw_tbl := tn5 164 rfl
theorem kR_X8_155 : Cond.stringRef RX8 155 "purse" ∈ lw_tbl := tn5 169 rfl
theorem kR_X8_157 : Cond.stringRef RX8 157 "limit" ∈ lw_tbl := tn5 170 rfl
theorem kR_X8_159 : Cond.stringRef RX8 159 "bag" ∈ lw_tbl := tn5 171 rfl
theorem kR_X8_161 : Cond.stringRef RX8 161 "day" ∈ lw_tbl := tn5 172 rfl
theorem kR_X8_163 : Cond.stringRef RX8 163 "sale" ∈ lw_tbl := tn5 173 rfl
theorem kR_X8_176 : Cond.stringRef RX8 176 "kinds" ∈ lw_tbl := tn5 119 rfl
theorem kR_X8_371 : Cond.stringRef RX8 371 ";sale " ∈ lw_tbl := tn7 20 rfl
theorem kR_X8_377 : Cond.stringRef RX8 377 ";float" ∈ lw_tbl := tn7 11 rfl
theorem kR_X8_379 : Cond.stringRef RX8 379 ";purse" ∈ lw_tbl := tn7 12 rfl
theorem kR_X8_381 : Cond.stringRef RX8 381 ";limit" ∈ lw_tbl := tn7 13 rfl
theorem kR_X8_383 : Cond.stringRef RX8 383 ";bag" ∈ lw_tbl := tn7 14 rfl
theorem kR_X8_385 : Cond.stringRef RX8 385 ";day" ∈ lw_tbl := tn7 15 rfl
theorem kV_State : Cond.arrayOver (.object "TillFloat$State") ∈ lw_tbl := tn1 133 rfl
theorem kV_rows : Cond.arrayOver (.array .int) ∈ lw_tbl := tn1 153 rfl
theorem kU_cs : Cond.laysStatic "java/lang/String" "COMPACT_STRINGS" "Z" ∈ lw_tbl := tn2 157 rfl
theorem kU_fm : Cond.laysStatic "jdk/internal/util/Preconditions" "SIOOBE_FORMATTER" "Ljava/util/function/BiFunction;" ∈ lw_tbl := tn2 177 rfl
theorem kU_s : Cond.initialized "java/lang/String" ∈ lw_tbl := tn1 11 rfl
theorem kU_p : Cond.initialized "jdk/internal/util/Preconditions" ∈ lw_tbl := tn1 13 rfl
end BG
/-- the place of a text's first use -/
def stO : List String := [RX4, RX4, RX4, RX4, RX4, RX4, RX4, RX5, RX5, RX5, RX5, RX5, RX5]
def stI : List Nat := [90, 104, 109, 111, 113, 115, 120, 33, 38, 43, 48, 56, 90]
def stT (i : Nat) : Term := .string (stO.getD i "") (stI.getD i 0)
/-- what the start says of a text -/
def stC (t : Term) (len : Nat) (byt : List Int32) : List Cond := [.exactly t "java/lang/String", .eq (.field t "java/lang/String" "coder" "B") (.int 0), .arrayOf (.field t "java/lang/String" "value" "[B") .byte, .eq (.length (.field t "java/lang/String" "value" "[B")) (.int (Int32.ofNat len))] ++ (List.range len).map (fun j => .eq (.elem (.field t "java/lang/String" "value" "[B") (.int (Int32.ofNat j))) (.int (byt.getD j 0)))
def stA : List Cond := (List.range 13).flatMap (fun i => stC (stT i) (sLen.getD i 0) (sByt.getD i []))
set_option maxRecDepth 100000 in
theorem stA_in : stA.all (fun c => decide (c ∈ flatC (Jvm.Cond.and given_1 narrow_1))) = true := by decide +kernel
theorem stA_has {i : Nat} (hi : i < 13) {c : Cond} (h : c ∈ stC (stT i) (sLen.getD i 0) (sByt.getD i [])) : c ∈ flatC (Jvm.Cond.and given_1 narrow_1) :=
  of_decide_eq_true (List.all_eq_true.mp stA_in c (List.mem_flatMap.mpr ⟨i, List.mem_range.mpr hi, h⟩))
/-- two texts differ in their length or in a sign -/
def stQ (i j : Nat) : Bool := decide (sLen.getD i 0 = sLen.getD j 0) && (List.range (sLen.getD i 0)).all (fun k => decide ((sByt.getD i []).getD k 0 = (sByt.getD j []).getD k 0))
theorem stQ_no : (List.range 13).all (fun i => (List.range 13).all (fun j => decide (i = j) || !stQ i j)) = true := by decide +kernel
theorem sLen_sm : (List.range 13).all (fun i => decide (sLen.getD i 0 ≤ 6)) = true := by decide +kernel
theorem str_same {args : Array Value} {s : State} {t u : Term} {a : Nat} (h : (Cond.eq t u).before args s = true) (ht : t.eval args s none [] s = some (.ref a)) : u.eval args s none [] s = some (.ref a) := by
  cases hv : u.eval args s none [] s with
  | none => simp [Cond.before, Cond.holds, Cond.value, hv, ht] at h
  | some w =>
    simp only [Cond.before, Cond.holds, Cond.value, hv, ht] at h
    cases w <;> simp_all
/-- one text -/
theorem str_one {args : Array Value} {s : State} {A : Nat → Prop} {t : Term} {len : Nat} {byt : List Int32} (hN : len < 2 ^ 31) (h : ∀ c ∈ stC t len byt, c.before args s = true) (hA : ∀ a : Nat, a < s.heap.size → ¬ A a) : ∃ q : Nat × Nat, va_O "java/lang/String" q.1 A s s.heap ∧ va_OF "java/lang/String" "coder" "B" (.int 0) q.1 A s s.heap ∧ va_OF "java/lang/String" "value" "[B" (.ref q.2) q.1 A s s.heap ∧ va_T .byte q.2 len (fun j => .int (byt.getD j 0)) A s s.heap ∧ t.eval args s none [] s = some (.ref q.1) := by
  have hm : ∀ c, c ∈ ([.exactly t "java/lang/String", .eq (.field t "java/lang/String" "coder" "B") (.int 0), .arrayOf (.field t "java/lang/String" "value" "[B") .byte, .eq (.length (.field t "java/lang/String" "value" "[B")) (.int (Int32.ofNat len))] : List Cond) → c.before args s = true := fun c hc => h c (List.mem_append_left _ hc)
  obtain ⟨aK, aV, h1, h2⟩ := vk_Sof (args := args) (s := s) (N := 1) (tm := fun _ => t) (len := [len]) (byt := [byt]) (A := A) (fun i hi => (by rw [show i = 0 by omega]; exact hN)) (fun i hi => hm _ List.mem_cons_self) (fun i hi => hm _ (List.mem_cons_of_mem _ List.mem_cons_self)) (fun i hi => hm _ (List.mem_cons_of_mem _ (List.mem_cons_of_mem _ List.mem_cons_self))) (fun i hi => by
      obtain rfl : i = 0 := by omega
      exact hm _ (List.mem_cons_of_mem _ (List.mem_cons_of_mem _ (List.mem_cons_of_mem _ List.mem_cons_self)))) (fun i hi j hj => by
      obtain rfl : i = 0 := by omega
      exact h _ (List.mem_append_right _ (List.mem_map.mpr ⟨j, List.mem_range.mpr hj, rfl⟩))) (fun i j hi hj hij => absurd (show i = j by omega) hij) hA
  obtain ⟨q1, q2, q3, q4⟩ := h1.1 0 (by decide)
  exact ⟨(aK 0, aV 0), q1, q2, q3, q4, h2 0 (by decide)⟩
/-- the texts of the start -/
theorem str_all {args : Array Value} {s : State} {A : Nat → Prop} (hgv : (Jvm.Cond.and given_1 narrow_1).before args s = true) (hA : ∀ a : Nat, a < s.heap.size → ¬ A a) : ∃ aK aV : Nat → Nat, vk_S 13 sLen sByt aK aV A s s.heap ∧ ∀ i : Nat, i < 13 → (stT i).eval args s none [] s = some (.ref (aK i)) := by
  have hs := flat_of_before _ hgv
  have h0 : ∀ i : Nat, ∃ q : Nat × Nat, i < 13 → va_O "java/lang/String" q.1 A s s.heap ∧ va_OF "java/lang/String" "coder" "B" (.int 0) q.1 A s s.heap ∧ va_OF "java/lang/String" "value" "[B" (.ref q.2) q.1 A s s.heap ∧ va_T .byte q.2 (sLen.getD i 0) (fun j => .int ((sByt.getD i []).getD j 0)) A s s.heap ∧ (stT i).eval args s none [] s = some (.ref q.1) := fun i => by
    by_cases hi : i < 13
    · have hl := of_decide_eq_true (List.all_eq_true.mp sLen_sm i (List.mem_range.mpr hi))
      obtain ⟨q, hq⟩ := str_one (A := A) (t := stT i) (len := sLen.getD i 0) (byt := sByt.getD i []) (by omega) (fun c hc => hs c (stA_has hi hc)) hA
      exact ⟨q, fun _ => hq⟩
    · exact ⟨(0, 0), fun h => absurd h hi⟩
  obtain ⟨f, hf⟩ := Classical.axiomOfChoice h0
  refine ⟨fun i => (f i).1, fun i => (f i).2, ⟨fun i hi => ⟨(hf i hi).1, (hf i hi).2.1, (hf i hi).2.2.1, (hf i hi).2.2.2.1⟩, fun i j hi hj e => ?_⟩, fun i hi => (hf i hi).2.2.2.2⟩
  by_cases hij : i = j
  · exact hij
  exfalso
  have e1 : (f i).1 = (f j).1 := e
  obtain ⟨-, -, o1, t1, -⟩ := hf i hi
  obtain ⟨-, -, o2, t2, -⟩ := hf j hj
  rw [e1] at o1
  obtain ⟨cf, k, fi, fd, cell, a1, a2, a3, a4, a5, a6⟩ := o1
  obtain ⟨cf', k', fi', fd', cell', b1, b2, b3, b4, b5, b6⟩ := o2
  have x1 := Option.some.inj (a1.symm.trans b1)
  have hfd : fd = fd' := congrArg (fun z => z.2.2.2) x1
  have hce : cell = cell' := Option.some.inj (a3.symm.trans b3)
  subst hfd hce
  have hv : (f i).2 = (f j).2 := Value.ref.inj (Option.some.inj (a5.symm.trans b5))
  rw [hv] at t1
  obtain ⟨c1, u1, u2, u3, u4, u5, u6, u7⟩ := t1
  obtain ⟨c2, w1, w2, w3, w4, w5, w6, w7⟩ := t2
  have hc12 : c1 = c2 := Option.some.inj (u1.symm.trans w1)
  subst hc12
  have li := of_decide_eq_true (List.all_eq_true.mp sLen_sm i (List.mem_range.mpr hi))
  have lj := of_decide_eq_true (List.all_eq_true.mp sLen_sm j (List.mem_range.mpr hj))
  have hlen : sLen.getD i 0 = sLen.getD j 0 := by
    have q := congrArg Int32.toInt (u5.symm.trans w5)
    rw [Int32.toInt_ofNat_of_lt (by omega), Int32.toInt_ofNat_of_lt (by omega)] at q
    omega
  have hno := List.all_eq_true.mp (List.all_eq_true.mp stQ_no i (List.mem_range.mpr hi)) j (List.mem_range.mpr hj)
  have hyes : stQ i j = true := by
    unfold stQ
    rw [Bool.and_eq_true]
    refine ⟨decide_eq_true hlen, List.all_eq_true.mpr (fun k hk => decide_eq_true ?_)⟩
    have hk1 := List.mem_range.mp hk
    exact Value.int.inj (Option.some.inj ((u6 k hk1).symm.trans (w6 k (by omega))))
  rw [hyes, decide_eq_false hij] at hno
  cases hno
/-- the class of rows of rows -/
theorem over_rows {args : Array Value} {s : State} (h : (Cond.arrayOver (.array .int)).before args s = true) : ∃ comp c k, s.vm.findClass "[I" = some comp ∧ s.vm.classes[c]? = some k ∧ k.kind = .array comp (.array .int) ∧ s.vm.findClass "[[I" = some c := by
  unfold Cond.before Cond.holds at h
  simp only [Cond.value, beq_iff_eq] at h
  rw [show (FieldType.array FieldType.int).toString = "[I" from rfl] at h
  cases hc : s.vm.findClass "[I" with
  | none => simp [hc] at h
  | some comp =>
    simp only [hc, Option.bind_some, Option.bind_eq_some_iff, Option.map_eq_some_iff] at h
    obtain ⟨c, hi, k, hk, hb⟩ := h
    obtain ⟨hlt, hp, -⟩ := Array.findIdx?_eq_some_iff_getElem.mp hi
    have hkk : s.vm.classes[c] = k := (Array.getElem?_eq_some_iff.mp hk).2
    rw [hkk] at hp
    cases hkind : k.kind with
    | array component ty =>
      rw [hkind] at hb hp
      simp only [Bool.and_eq_true, decide_eq_true_eq] at hb
      have hp2 : component = comp := beq_iff_eq.mp hp
      exact ⟨comp, c, k, rfl, hk, by rw [hkind, hp2, hb.1], hb.2⟩
    | _ => rw [hkind] at hp; simp at hp

theorem str_refs {b : Nat} {s : State} {aK : Nat → Nat} (hts : ∀ w ∈ lw_tbl, w.before #[Value.ref b] s = true) (hgv : (Jvm.Cond.and given_1 narrow_1).before #[Value.ref b] s = true) (h : ∀ i : Nat, i < 13 → (stT i).eval #[Value.ref b] s none [] s = some (.ref (aK i))) : ∀ q ∈ sRef, vk_R q.1 q.2.1 q.2.2.1 (aK q.2.2.2) s := by
  have hs := flat_of_before _ hgv
  intro q hq
  unfold sRef at hq
  rcases List.mem_cons.mp hq with rfl | hq
  · exact vk_R.of (hts _ kR_X4_90) (h 0 (by decide))
  rcases List.mem_cons.mp hq with rfl | hq
  · exact vk_R.of (hts _ kR_X4_104) (h 1 (by decide))
  rcases List.mem_cons.mp hq with rfl | hq
  · exact vk_R.of (hts _ kR_X4_109) (h 2 (by decide))
  rcases List.mem_cons.mp hq with rfl | hq
  · exact vk_R.of (hts _ kR_X4_111) (h 3 (by decide))
  rcases List.mem_cons.mp hq with rfl | hq
  · exact vk_R.of (hts _ kR_X4_113) (h 4 (by decide))
  rcases List.mem_cons.mp hq with rfl | hq
  · exact vk_R.of (hts _ kR_X4_115) (h 5 (by decide))
  rcases List.mem_cons.mp hq with rfl | hq
  · exact vk_R.of (hts _ kR_X4_120) (h 6 (by decide))
  rcases List.mem_cons.mp hq with rfl | hq
  · exact vk_R.of (hts _ kR_X5_24) (str_same (hs (.eq (.string RX4 90) (.string RX5 24)) (by decide +kernel)) (h 0 (by decide)))
  rcases List.mem_cons.mp hq with rfl | hq
  · exact vk_R.of (hts _ kR_X5_33) (h 7 (by decide))
  rcases List.mem_cons.mp hq with rfl | hq
  · exact vk_R.of (hts _ kR_X5_38) (h 8 (by decide))
  rcases List.mem_cons.mp hq with rfl | hq
  · exact vk_R.of (hts _ kR_X5_43) (h 9 (by decide))
  rcases List.mem_cons.mp hq with rfl | hq
  · exact vk_R.of (hts _ kR_X5_48) (h 10 (by decide))
  rcases List.mem_cons.mp hq with rfl | hq
  · exact vk_R.of (hts _ kR_X5_56) (h 11 (by decide))
  rcases List.mem_cons.mp hq with rfl | hq
  · exact vk_R.of (hts _ kR_X5_90) (h 12 (by decide))
  rcases List.mem_cons.mp hq with rfl | hq
  · exact vk_R.of (hts _ kR_X8_145) (str_same (hs (.eq (.string RX4 104) (.string RX8 145)) (by decide +kernel)) (h 1 (by decide)))
  rcases List.mem_cons.mp hq with rfl | hq
  · exact vk_R.of (hts _ kR_X8_155) (str_same (hs (.eq (.string RX4 109) (.string RX8 155)) (by decide +kernel)) (h 2 (by decide)))
  rcases List.mem_cons.mp hq with rfl | hq
  · exact vk_R.of (hts _ kR_X8_157) (str_same (hs (.eq (.string RX4 111) (.string RX8 157)) (by decide +kernel)) (h 3 (by decide)))
  rcases List.mem_cons.mp hq with rfl | hq
  · exact vk_R.of (hts _ kR_X8_159) (str_same (hs (.eq (.string RX4 113) (.string RX8 159)) (by decide +kernel)) (h 4 (by decide)))
  rcases List.mem_cons.mp hq with rfl | hq
  · exact vk_R.of (hts _ kR_X8_161) (str_same (hs (.eq (.string RX4 115) (.string RX8 161)) (by decide +kernel)) (h 5 (by decide)))
  rcases List.mem_cons.mp hq with rfl | hq
  · exact vk_R.of (hts _ kR_X8_163) (str_same (hs (.eq (.string RX4 120) (.string RX8 163)) (by decide +kernel)) (h 6 (by decide)))
  rcases List.mem_cons.mp hq with rfl | hq
  · exact vk_R.of (hts _ kR_X8_176) (str_same (hs (.eq (.string RX4 90) (.string RX8 176)) (by decide +kernel)) (h 0 (by decide)))
  rcases List.mem_cons.mp hq with rfl | hq
  · exact vk_R.of (hts _ kR_X8_371) (str_same (hs (.eq (.string RX5 90) (.string RX8 371)) (by decide +kernel)) (h 12 (by decide)))
  rcases List.mem_cons.mp hq with rfl | hq
  · exact vk_R.of (hts _ kR_X8_377) (str_same (hs (.eq (.string RX5 33) (.string RX8 377)) (by decide +kernel)) (h 7 (by decide)))
  rcases List.mem_cons.mp hq with rfl | hq
  · exact vk_R.of (hts _ kR_X8_379) (str_same (hs (.eq (.string RX5 38) (.string RX8 379)) (by decide +kernel)) (h 8 (by decide)))
  rcases List.mem_cons.mp hq with rfl | hq
  · exact vk_R.of (hts _ kR_X8_381) (str_same (hs (.eq (.string RX5 43) (.string RX8 381)) (by decide +kernel)) (h 9 (by decide)))
  rcases List.mem_cons.mp hq with rfl | hq
  · exact vk_R.of (hts _ kR_X8_383) (str_same (hs (.eq (.string RX5 48) (.string RX8 383)) (by decide +kernel)) (h 10 (by decide)))
  rcases List.mem_cons.mp hq with rfl | hq
  · exact vk_R.of (hts _ kR_X8_385) (str_same (hs (.eq (.string RX5 56) (.string RX8 385)) (by decide +kernel)) (h 11 (by decide)))
  · cases hq
