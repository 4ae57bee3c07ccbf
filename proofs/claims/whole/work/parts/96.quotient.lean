/-! quotients of whole numbers, as the bits of doubles -/
theorem canc (x y p q : Nat) : x * 2 ^ p ≤ y * 2 ^ q ↔ x * 2 ^ (p - q) ≤ y * 2 ^ (q - p) := by
  have hm : ∀ m : Nat, 0 < 2 ^ m := fun m => Nat.pos_of_ne_zero (by simp)
  by_cases h : p ≤ q
  · have e : q = (q - p) + p := by omega
    rw [show p - q = 0 by omega]
    have e2 : y * 2 ^ q = y * 2 ^ (q - p) * 2 ^ p := by rw [Nat.mul_assoc, ← Nat.pow_add, ← e]
    rw [e2, Nat.pow_zero, Nat.mul_one]
    exact Nat.mul_le_mul_right_iff (hm p)
  · have e : p = (p - q) + q := by omega
    rw [show q - p = 0 by omega]
    have e2 : x * 2 ^ p = x * 2 ^ (p - q) * 2 ^ q := by rw [Nat.mul_assoc, ← Nat.pow_add, ← e]
    rw [e2, Nat.pow_zero, Nat.mul_one]
    exact Nat.mul_le_mul_right_iff (hm q)
theorem leading_eq {num den p q : Nat} (hn : 0 < num) (hd : 0 < den) (h1 : den * 2 ^ p ≤ num * 2 ^ q) (h2 : num * 2 ^ q < 2 * (den * 2 ^ p)) : FP.Core.leading num den = (p : Int) - q := by
  have a1 := Nat.log2_self_le (n := num) (by omega)
  have a2 := Nat.lt_log2_self (n := num)
  have b1 := Nat.log2_self_le (n := den) (by omega)
  have b2 := Nat.lt_log2_self (n := den)
  unfold FP.Core.leading
  generalize hA : Nat.log2 num = A at *
  generalize hB : Nat.log2 den = B at *
  have hm : ∀ m : Nat, 0 < 2 ^ m := fun m => Nat.pos_of_ne_zero (by simp)
  have g1 : 2 ^ (B + p) < 2 ^ (A + 1 + q) := by
    rw [Nat.pow_add, Nat.pow_add]
    exact Nat.lt_of_le_of_lt (Nat.mul_le_mul_right _ b1) (Nat.lt_of_le_of_lt h1 (Nat.mul_lt_mul_of_pos_right a2 (hm q)))
  have g2 : 2 ^ (A + q) < 2 ^ (B + 1 + p + 1) := by
    rw [Nat.pow_add, Nat.pow_succ 2 (B + 1 + p), Nat.pow_add 2 (B + 1) p]
    refine Nat.lt_of_le_of_lt (Nat.mul_le_mul_right _ a1) (Nat.lt_trans h2 ?_)
    rw [Nat.mul_comm 2]
    exact Nat.mul_lt_mul_of_pos_right (Nat.mul_lt_mul_of_pos_right b2 (hm p)) (by decide)
  have k1 : B + p < A + 1 + q := (Nat.pow_lt_pow_iff_right (by decide)).mp g1
  have k2 : A + q < B + 1 + p + 1 := (Nat.pow_lt_pow_iff_right (by decide)).mp g2
  show (if den * 2 ^ ((A : Int) - B).toNat ≤ num * 2 ^ (-((A : Int) - B)).toNat then (A : Int) - B else (A : Int) - B - 1) = _
  by_cases c : (A : Int) - B = p - q
  · rw [if_pos, c]
    rw [show ((A : Int) - B).toNat = p - q by omega, show (-((A : Int) - B)).toNat = q - p by omega]
    exact (canc den num p q).mp h1
  · rw [if_neg]
    · omega
    · rw [show ((A : Int) - B).toNat = p + 1 - q by omega, show (-((A : Int) - B)).toNat = q - (p + 1) by omega]
      intro w
      have := (canc den num (p + 1) q).mpr w
      rw [Nat.pow_succ, ← Nat.mul_assoc] at this
      omega
theorem nearest_scale {x y k : Nat} (hk : 0 < k) : FP.Core.nearest (x * k) (y * k) = FP.Core.nearest x y := by
  unfold FP.Core.nearest
  rw [Nat.mul_mod_mul_right, Nat.mul_div_mul_right _ _ hk, ← Nat.mul_assoc]
  have i1 : 2 * (x % y) * k < y * k ↔ 2 * (x % y) < y := Nat.mul_lt_mul_right hk
  have i2 : y * k < 2 * (x % y) * k ↔ y < 2 * (x % y) := Nat.mul_lt_mul_right hk
  simp only [i1, i2]
theorem nearest_one (x : Nat) : FP.Core.nearest x 1 = x := by
  unfold FP.Core.nearest
  rw [Nat.mod_one, if_pos (by decide), Nat.div_one]
theorem b64c : FP.Core.Fmt.tails FP.Core.b64 = 4503599627370496 ∧ FP.Core.Fmt.exps FP.Core.b64 = 2048 ∧ FP.Core.Fmt.qmin FP.Core.b64 = -1074 ∧ FP.Core.Fmt.qmax FP.Core.b64 = 971 ∧ 2 ^ FP.Core.Fmt.p FP.Core.b64 = 9007199254740992 ∧ ((FP.Core.Fmt.p FP.Core.b64 : Nat) : Int) = 53 := by decide +kernel
theorem enc_fin {c : Nat} {q : Int} (h : 4503599627370496 ≤ c) (hq : -1074 ≤ q) : FP.Core.encode FP.Core.b64 (.fin false c q) = (q + 1075).toNat * 4503599627370496 + (c - 4503599627370496) := by
  obtain ⟨c1, c2, c3, c4, c5, c6⟩ := b64c
  show (if c < FP.Core.Fmt.tails FP.Core.b64 then _ else _) = _
  rw [if_neg (by omega)]
  unfold FP.Core.assemble
  rw [c1, c2, c3]
  show (0 * 2048 + ((q - -1074).toNat + 1)) * 4503599627370496 + (c - 4503599627370496) = _
  rw [show 0 * 2048 + ((q - -1074).toNat + 1) = (q + 1075).toNat by omega]
/-- the whole number c * 2^q, rounded: what the quotient of two such is -/
theorem settle_bits {N : Nat} {q : Int} (h1 : 4503599627370496 ≤ N) (h2 : N ≤ 9007199254740992) (hq : -1074 ≤ q ∧ q ≤ 900) : FP.Core.encode FP.Core.b64 (FP.Core.settle FP.Core.b64 false N q) = (q + 1074).toNat * 4503599627370496 + N := by
  obtain ⟨c1, c2, c3, c4, c5, c6⟩ := b64c
  unfold FP.Core.settle
  rw [c5, c1]
  by_cases h : N < 9007199254740992
  · rw [if_pos h]
    unfold FP.Core.bound
    rw [c4, if_pos (by omega), enc_fin h1 (by omega)]
    omega
  · rw [if_neg h]
    unfold FP.Core.bound
    rw [c4, if_pos (by omega), enc_fin (by omega) (by omega)]
    omega
theorem ratio_bits {num den : Nat} {e : Int} {L : Int} (hn : 0 < num) (hL : FP.Core.leading num den + e = L) (hb : -100 ≤ L ∧ L ≤ 100) : FP.Core.roundRatio FP.Core.b64 false num den e = FP.Core.settle FP.Core.b64 false (FP.Core.nearest (num * 2 ^ (e - (L - 52)).toNat) (den * 2 ^ ((L - 52) - e).toNat)) (L - 52) := by
  obtain ⟨c1, c2, c3, c4, c5, c6⟩ := b64c
  unfold FP.Core.roundRatio
  rw [if_neg (by omega)]
  unfold FP.Core.roundAt FP.Core.quantum FP.Core.unitsNum FP.Core.unitsDen
  rw [c3, c6, hL, show max (-1074) (L - (53 - 1)) = L - 52 by omega]
theorem near_bd {x y : Nat} (hy : 0 < y) (h1 : y * 4503599627370496 ≤ x) (h2 : x < y * 9007199254740992) : 4503599627370496 ≤ FP.Core.nearest x y ∧ FP.Core.nearest x y ≤ 9007199254740992 := by
  have d1 : 4503599627370496 ≤ x / y := (Nat.le_div_iff_mul_le hy).mpr (by rw [Nat.mul_comm]; exact h1)
  have d2 : x / y < 9007199254740992 := (Nat.div_lt_iff_lt_mul hy).mpr (by rw [Nat.mul_comm]; exact h2)
  unfold FP.Core.nearest
  split
  · omega
  · split
    · omega
    · have := Nat.mod_lt (x / y) (show 0 < 2 by decide)
      omega
/-- a whole number, as a double -/
theorem int_bits {a : Nat} (h0 : 0 < a) (h : a < 2147483648) : ∃ A : Nat, 2 ^ A ≤ a ∧ a < 2 ^ (A + 1) ∧ A ≤ 30 ∧ FP.Core.fromInt FP.Core.b64 (a : Int) < 18446744073709551616 ∧ FP.Core.decode FP.Core.b64 (FP.Core.fromInt FP.Core.b64 (a : Int)) = .fin false (a * 2 ^ (52 - A)) ((A : Int) - 52) := by
  obtain ⟨c1, c2, c3, c4, c5, c6⟩ := b64c
  have a1 := Nat.log2_self_le (n := a) (by omega)
  have a2 := Nat.lt_log2_self (n := a)
  refine ⟨Nat.log2 a, a1, a2, ?_⟩
  have hA : Nat.log2 a ≤ 30 := by
    have := (Nat.log2_lt (n := a) (k := 31) (by omega)).mpr (by omega)
    omega
  generalize Nat.log2 a = A at *
  have l : FP.Core.leading a 1 + 0 = (A : Int) := by
    rw [leading_eq (p := A) (q := 0) h0 (by decide) (by omega) (by rw [Nat.pow_succ] at a2; omega)]
    omega
  have hc1 : 4503599627370496 ≤ a * 2 ^ (52 - A) := by
    have : 2 ^ A * 2 ^ (52 - A) = 4503599627370496 := by rw [← Nat.pow_add, show A + (52 - A) = 52 by omega]
    have := Nat.mul_le_mul_right (2 ^ (52 - A)) a1
    omega
  have hc2 : a * 2 ^ (52 - A) < 9007199254740992 := by
    have : 2 ^ (A + 1) * 2 ^ (52 - A) = 9007199254740992 := by rw [← Nat.pow_add, show A + 1 + (52 - A) = 53 by omega]
    have := Nat.mul_lt_mul_of_pos_right (k := 2 ^ (52 - A)) a2 (Nat.pos_of_ne_zero (by simp))
    omega
  have hf : FP.Core.fromInt FP.Core.b64 (a : Int) = ((A : Int) - 52 + 1074).toNat * 4503599627370496 + a * 2 ^ (52 - A) := by
    show FP.Core.encode FP.Core.b64 (FP.Core.roundRatio FP.Core.b64 (decide ((a : Int) < 0)) a 1 0) = _
    rw [decide_eq_false (by omega), ratio_bits h0 l (by omega), show (0 - ((A : Int) - 52)).toNat = 52 - A by omega, show ((A : Int) - 52 - 0).toNat = 0 by omega, Nat.pow_zero, nearest_one, settle_bits hc1 (by omega) (by omega)]
  rw [hf]
  generalize a * 2 ^ (52 - A) = c at *
  have hfe : ((A : Int) - 52 + 1074).toNat * 4503599627370496 + c = (A + 1023) * 4503599627370496 + (c - 4503599627370496) := by omega
  refine ⟨hA, by omega, ?_⟩
  unfold FP.Core.decode FP.Core.fieldE FP.Core.fieldT FP.Core.fieldS
  rw [c1, c2, c3, hfe]
  have e1 : ((A + 1023) * 4503599627370496 + (c - 4503599627370496)) / 4503599627370496 = A + 1023 := by omega
  have e2 : ((A + 1023) * 4503599627370496 + (c - 4503599627370496)) % 4503599627370496 = c - 4503599627370496 := by omega
  rw [e1, e2, show (A + 1023) % 2048 = A + 1023 by omega, show (A + 1023) / 2048 % 2 = 0 by omega, if_neg (by omega), if_neg (by omega)]
  show FP.Core.Datum.fin false _ _ = _
  rw [show 4503599627370496 + (c - 4503599627370496) = c by omega, show (-1074 + (((A + 1023 : Nat) : Int) - 1)) = (A : Int) - 52 by omega]
theorem pw2 (x p q : Nat) : x * 2 ^ p * 2 ^ q = x * 2 ^ (p + q) := by rw [Nat.mul_assoc, ← Nat.pow_add]
theorem p52 : (4503599627370496 : Nat) = 2 ^ 52 := by decide
/-- the quotient of two whole numbers, as a double -/
theorem quot_bits {a b u v : Nat} (ha : 0 < a ∧ a < 2147483648) (hb : 0 < b ∧ b < 2147483648) (h1 : b * 2 ^ u ≤ a * 2 ^ v) (h2 : a * 2 ^ v < 2 * (b * 2 ^ u)) : FP.Core.div FP.Core.b64 (FP.Core.fromInt FP.Core.b64 (a : Int)) (FP.Core.fromInt FP.Core.b64 (b : Int)) = ((u : Int) - v + 1022).toNat * 4503599627370496 + FP.Core.nearest (a * 2 ^ v * 4503599627370496) (b * 2 ^ u) ∧ 4503599627370496 ≤ FP.Core.nearest (a * 2 ^ v * 4503599627370496) (b * 2 ^ u) ∧ FP.Core.nearest (a * 2 ^ v * 4503599627370496) (b * 2 ^ u) ≤ 9007199254740992 ∧ -40 ≤ (u : Int) - v ∧ (u : Int) - v ≤ 40 := by
  obtain ⟨A, p1, p2, p3, p4, p5⟩ := int_bits ha.1 ha.2
  obtain ⟨B, q1, q2, q3, q4, q5⟩ := int_bits hb.1 hb.2
  have hm : ∀ m : Nat, 0 < 2 ^ m := fun m => Nat.pos_of_ne_zero (by simp)
  have l1 := leading_eq ha.1 hb.1 h1 h2
  have w : 2 ^ (B + u) < 2 ^ (A + 1 + v) := by
    rw [Nat.pow_add, Nat.pow_add 2 (A + 1)]
    exact Nat.lt_of_le_of_lt (Nat.mul_le_mul_right _ q1) (Nat.lt_of_le_of_lt h1 (Nat.mul_lt_mul_of_pos_right p2 (hm v)))
  have w2 : 2 ^ (A + v) < 2 ^ (B + 1 + u + 1) := by
    rw [Nat.pow_add, Nat.pow_succ 2 (B + 1 + u), Nat.pow_add 2 (B + 1) u]
    refine Nat.lt_of_le_of_lt (Nat.mul_le_mul_right _ p1) (Nat.lt_trans h2 ?_)
    rw [Nat.mul_comm 2]
    exact Nat.mul_lt_mul_of_pos_right (Nat.mul_lt_mul_of_pos_right q2 (hm u)) (by decide)
  have w3 : B + u < A + 1 + v := (Nat.pow_lt_pow_iff_right (by decide)).mp w
  have w4 : A + v < B + 1 + u + 1 := (Nat.pow_lt_pow_iff_right (by decide)).mp w2
  -- the leading digit of the two as they stand
  have s1 : b * 2 ^ (52 - B) * 2 ^ (u + B + 31) = b * 2 ^ u * 2 ^ 83 := by
    rw [Nat.mul_assoc, ← Nat.pow_add, show 52 - B + (u + B + 31) = u + 83 by omega, Nat.pow_add, ← Nat.mul_assoc]
  have s2 : a * 2 ^ (52 - A) * 2 ^ (v + A + 31) = a * 2 ^ v * 2 ^ 83 := by
    rw [Nat.mul_assoc, ← Nat.pow_add, show 52 - A + (v + A + 31) = v + 83 by omega, Nat.pow_add, ← Nat.mul_assoc]
  have hcn : 0 < a * 2 ^ (52 - A) := Nat.mul_pos ha.1 (hm _)
  have hcd : 0 < b * 2 ^ (52 - B) := Nat.mul_pos hb.1 (hm _)
  have l2 : FP.Core.leading (a * 2 ^ (52 - A)) (b * 2 ^ (52 - B)) = ((u + B + 31 : Nat) : Int) - (v + A + 31 : Nat) := by
    refine leading_eq hcn hcd ?_ ?_
    · rw [s1, s2]; exact Nat.mul_le_mul_right _ h1
    · rw [s1, s2, ← Nat.mul_assoc]; exact Nat.mul_lt_mul_of_pos_right h2 (hm 83)
  have hN : FP.Core.nearest (a * 2 ^ (52 - A) * 2 ^ ((A : Int) - 52 - ((B : Int) - 52) - ((u : Int) - v - 52)).toNat) (b * 2 ^ (52 - B) * 2 ^ ((u : Int) - v - 52 - ((A : Int) - 52 - ((B : Int) - 52))).toNat) = FP.Core.nearest (a * 2 ^ v * 4503599627370496) (b * 2 ^ u) := by
    rw [show ((u : Int) - v - 52 - ((A : Int) - 52 - ((B : Int) - 52))).toNat = 0 by omega, Nat.pow_zero, Nat.mul_one]
    have t1 : a * 2 ^ (52 - A) * 2 ^ ((A : Int) - 52 - ((B : Int) - 52) - ((u : Int) - v - 52)).toNat * 2 ^ (u + B) = a * 2 ^ v * 4503599627370496 * 2 ^ 52 := by
      rw [p52, pw2, pw2, pw2, pw2]
      exact congrArg (fun e => a * 2 ^ e) (by omega)
    have t2 : b * 2 ^ (52 - B) * 2 ^ (u + B) = b * 2 ^ u * 2 ^ 52 := by
      rw [pw2, pw2]
      exact congrArg (fun e => b * 2 ^ e) (by omega)
    rw [← nearest_scale (hm (u + B)), t1, t2, nearest_scale (hm 52)]
  have hnb := near_bd (x := a * 2 ^ v * 4503599627370496) (y := b * 2 ^ u) (Nat.mul_pos hb.1 (hm u)) (Nat.mul_le_mul_right _ h1) (by omega)
  refine ⟨?_, hnb.1, hnb.2, by omega, by omega⟩
  unfold FP.Core.div
  rw [p5, q5]
  show FP.Core.encode FP.Core.b64 (if b * 2 ^ (52 - B) = 0 then _ else FP.Core.roundRatio FP.Core.b64 false (a * 2 ^ (52 - A)) (b * 2 ^ (52 - B)) ((A : Int) - 52 - ((B : Int) - 52))) = _
  rw [if_neg (by omega), ratio_bits (L := (u : Int) - v) hcn (by rw [l2]; omega) (by omega), hN, settle_bits hnb.1 hnb.2 (by omega)]
  rw [show ((u : Int) - v - 52 + 1074) = (u : Int) - v + 1022 by omega]
theorem UB_nat {x : Int} (h : 0 ≤ x ∧ x < 9223372036854775808) : UB x = x.toNat := by
  unfold UB
  show (BitVec.ofInt 64 x).toNat = _
  rw [BitVec.toNat_ofInt]
  congr 1
  omega
theorem lshl_k {x : Int} {r : Nat} (hr : r < 64) (h0 : 0 ≤ x) (h : x * ((2 ^ r : Nat) : Int) < 9223372036854775808) : lshl x r = x * ((2 ^ r : Nat) : Int) := by
  obtain ⟨n, rfl⟩ : ∃ n : Nat, x = n := ⟨x.toNat, by omega⟩
  have hp : 1 ≤ 2 ^ r := Nat.one_le_two_pow
  have hnp : n * 2 ^ r < 9223372036854775808 := by
    have : ((n * 2 ^ r : Nat) : Int) < 9223372036854775808 := by rw [Int.natCast_mul]; exact h
    omega
  have hn : n < 9223372036854775808 := Nat.lt_of_le_of_lt (Nat.le_mul_of_pos_right n hp) hnp
  have e := UB_lshl (n : Int) hr
  rw [UB_nat (x := (n : Int)) (by omega), Nat.shiftLeft_eq, Int.toNat_natCast, Nat.mod_eq_of_lt (by omega)] at e
  have hz : lshl (n : Int) r = (Int64.ofInt (n : Int) <<< ((Int32.ofInt (r : Int)).toInt64 &&& 63)).toInt := rfl
  have hb : (Int64.ofInt (n : Int) <<< ((Int32.ofInt (r : Int)).toInt64 &&& 63)).toBitVec.toNat = n * 2 ^ r := by
    rw [← UB_of]; exact e
  rw [hz]
  show (Int64.ofInt (n : Int) <<< ((Int32.ofInt (r : Int)).toInt64 &&& 63)).toBitVec.toInt = _
  rw [BitVec.toInt_eq_toNat_of_lt (by omega), hb, Int.natCast_mul]
theorem lshl_1 {x : Int} (h : 0 ≤ x ∧ x < 4611686018427387904) : lshl x 1 = 2 * x := by
  have := lshl_k (x := x) (r := 1) (by decide) h.1 (by omega)
  rw [show ((1 : Nat) : Int) = 1 from rfl] at this
  rw [this]
  omega
theorem land_par {x : Int} (h : 0 ≤ x ∧ x < 9223372036854775808) : land x 1 = x % 2 := by
  rw [land_1]
  have e : wb x 0 = decide (x.toNat % 2 = 1) := by
    unfold wb
    rw [UB_nat h, Nat.testBit_zero]
  rw [e]
  by_cases g : x.toNat % 2 = 1
  · rw [decide_eq_true g, if_pos rfl]; omega
  · rw [decide_eq_false g, if_neg (by decide)]; omega
/-- numbers below 2047 * 2^52 are the bits of doubles that are numbers -/
theorem fin_bits {R : Nat} (h : R < 9218868437227405312) : vf_n64 (UInt64.ofNat R) ∧ FP.dcmp (UInt64.ofNat R) (UInt64.ofNat R) = some .eq ∧ (UInt64.ofNat R).toInt64.toInt = R := by
  obtain ⟨c1, c2, c3, c4, c5, c6⟩ := b64c
  have hN : (UInt64.ofNat R).toNat = R := by
    rw [UInt64.toNat_ofNat']; omega
  refine ⟨?_, ?_, ?_⟩
  · show (UInt64.ofNat R &&& 9223372036854775807).toNat ≤ (9218868437227405312 : UInt64).toNat
    rw [UInt64.toNat_and, hN]
    have : R &&& (9223372036854775807 : UInt64).toNat ≤ R := Nat.and_le_left
    have e : (9218868437227405312 : UInt64).toNat = 9218868437227405312 := by decide
    omega
  · show FP.Core.order (FP.Core.decode FP.Core.b64 (UInt64.ofNat R).toNat) (FP.Core.decode FP.Core.b64 (UInt64.ofNat R).toNat) = _
    rw [hN]
    have hE : FP.Core.fieldE FP.Core.b64 R ≠ FP.Core.Fmt.exps FP.Core.b64 - 1 := by
      unfold FP.Core.fieldE
      rw [c1, c2]; omega
    have hd : ∃ s c q, FP.Core.decode FP.Core.b64 R = .fin s c q := by
      unfold FP.Core.decode
      rw [if_neg hE]
      split <;> exact ⟨_, _, _, rfl⟩
    obtain ⟨s, c, q, hd⟩ := hd
    rw [hd]
    show some (compare _ _) = some Ordering.eq
    rw [show ∀ z : Int, compare z z = Ordering.eq from fun z => by simp [compare, compareOfLessAndEq]]
  · show (UInt64.ofNat R).toBitVec.toInt = _
    have hb : (UInt64.ofNat R).toBitVec.toNat = R := hN
    rw [BitVec.toInt_eq_toNat_of_lt (by omega), hb]
theorem i2d_bits {a : Int} (h : 0 < a ∧ a < 2147483648) : i2d a = UInt64.ofNat (FP.Core.fromInt FP.Core.b64 ((a.toNat : Nat) : Int)) := by
  have e : (Int32.ofInt a).toInt = ((a.toNat : Nat) : Int) := by
    rw [Int32.toInt_ofInt_of_le (by omega) (by omega)]; omega
  show UInt64.ofNat (FP.Core.fromInt FP.Core.b64 (Int32.ofInt a).toInt) = _
  rw [e]
/-- what a quotient's bits are, where its leading digit is known -/
theorem ddiv_bits {a b : Int} {u v : Nat} (ha : 0 < a ∧ a < 2147483648) (hb : 0 < b ∧ b < 2147483648) (h1 : b.toNat * 2 ^ u ≤ a.toNat * 2 ^ v) (h2 : a.toNat * 2 ^ v < 2 * (b.toNat * 2 ^ u)) : ∃ R : Nat, FP.ddiv (i2d a) (i2d b) = UInt64.ofNat R ∧ R < 9218868437227405312 ∧ (R : Int) = ((u : Int) - v + 1022) * 4503599627370496 + (FP.Core.nearest (a.toNat * 2 ^ v * 4503599627370496) (b.toNat * 2 ^ u) : Nat) := by
  obtain ⟨q1, q2, q3, q4, q5⟩ := quot_bits (a := a.toNat) (b := b.toNat) (by omega) (by omega) h1 h2
  obtain ⟨A, p1, p2, p3, p4, p5⟩ := int_bits (a := a.toNat) (by omega) (by omega)
  obtain ⟨B, r1, r2, r3, r4, r5⟩ := int_bits (a := b.toNat) (by omega) (by omega)
  refine ⟨((u : Int) - v + 1022).toNat * 4503599627370496 + FP.Core.nearest (a.toNat * 2 ^ v * 4503599627370496) (b.toNat * 2 ^ u), ?_, ?_, ?_⟩
  · rw [i2d_bits ha, i2d_bits hb]
    show UInt64.ofNat (FP.Core.div FP.Core.b64 (UInt64.ofNat _).toNat (UInt64.ofNat _).toNat) = _
    rw [UInt64.toNat_ofNat', UInt64.toNat_ofNat', Nat.mod_eq_of_lt p4, Nat.mod_eq_of_lt r4, q1]
  · omega
  · omega
theorem lead_ex {a b : Nat} (ha : 0 < a) (hb : 0 < b) : ∃ u v : Nat, b * 2 ^ u ≤ a * 2 ^ v ∧ a * 2 ^ v < 2 * (b * 2 ^ u) := by
  have a1 := Nat.log2_self_le (n := a) (by omega)
  have a2 := Nat.lt_log2_self (n := a)
  have b1 := Nat.log2_self_le (n := b) (by omega)
  have b2 := Nat.lt_log2_self (n := b)
  generalize Nat.log2 a = A at *
  generalize Nat.log2 b = B at *
  have hm : ∀ m : Nat, 0 < 2 ^ m := fun m => Nat.pos_of_ne_zero (by simp)
  by_cases c : b * 2 ^ A ≤ a * 2 ^ B
  · refine ⟨A, B, c, ?_⟩
    have x1 : a * 2 ^ B < 2 ^ (A + 1) * 2 ^ B := Nat.mul_lt_mul_of_pos_right a2 (hm B)
    have x2 : 2 ^ B * 2 ^ A ≤ b * 2 ^ A := Nat.mul_le_mul_right _ b1
    have x3 : 2 ^ (A + 1) * 2 ^ B = 2 * (2 ^ B * 2 ^ A) := by rw [Nat.pow_succ, Nat.mul_comm (2 ^ A) 2, Nat.mul_assoc, Nat.mul_comm (2 ^ A)]
    omega
  · refine ⟨A, B + 1, ?_, ?_⟩
    · have x1 : b * 2 ^ A ≤ 2 ^ (B + 1) * 2 ^ A := Nat.mul_le_mul_right _ (Nat.le_of_lt b2)
      have x2 : 2 ^ A * 2 ^ (B + 1) ≤ a * 2 ^ (B + 1) := Nat.mul_le_mul_right _ a1
      have x3 := Nat.mul_comm (2 ^ (B + 1)) (2 ^ A)
      omega
    · rw [Nat.pow_succ, ← Nat.mul_assoc]; omega
/-- the bits of a quotient, 0 where there is none -/
def qotB (a b : Int) : Int := if a ≤ 0 ∨ b ≤ 0 then 0 else (FP.ddiv (i2d a) (i2d b)).toInt64.toInt
theorem ddiv_0 {b : Int} (hb : 0 < b ∧ b < 2147483648) : FP.ddiv (i2d 0) (i2d b) = UInt64.ofNat 0 := by
  obtain ⟨B, r1, r2, r3, r4, r5⟩ := int_bits (a := b.toNat) (by omega) (by omega)
  have z : FP.Core.decode FP.Core.b64 (i2d 0).toNat = .fin false 0 (-1074) := by decide +kernel
  rw [i2d_bits hb]
  show UInt64.ofNat (FP.Core.div FP.Core.b64 (i2d 0).toNat (UInt64.ofNat _).toNat) = _
  rw [UInt64.toNat_ofNat', Nat.mod_eq_of_lt r4]
  unfold FP.Core.div
  rw [r5, z]
  have hcd : 0 < b.toNat * 2 ^ (52 - B) := Nat.mul_pos (by omega) (Nat.pos_of_ne_zero (by simp))
  show UInt64.ofNat (FP.Core.encode FP.Core.b64 (if b.toNat * 2 ^ (52 - B) = 0 then _ else FP.Core.roundRatio FP.Core.b64 false 0 _ _)) = _
  rw [if_neg (by omega)]
  rfl
theorem ddiv_fin {a b : Int} (ha : 0 ≤ a ∧ a < 2147483648) (hb : 0 < b ∧ b < 2147483648) : ∃ R : Nat, FP.ddiv (i2d a) (i2d b) = UInt64.ofNat R ∧ R < 9218868437227405312 ∧ (R : Int) = qotB a b := by
  unfold qotB
  by_cases z : a = 0
  · subst z
    exact ⟨0, ddiv_0 hb, by decide, by rw [if_pos (Or.inl (Int.le_refl _))]; rfl⟩
  · obtain ⟨u, v, h1, h2⟩ := lead_ex (a := a.toNat) (b := b.toNat) (by omega) (by omega)
    obtain ⟨R, e, hR, _⟩ := ddiv_bits (a := a) (b := b) (by omega) hb h1 h2
    refine ⟨R, e, hR, ?_⟩
    rw [if_neg (by omega), e, (fin_bits hR).2.2]
theorem near_div {x y d r : Nat} (h : 2 * (d * y) + r = 2 * x) (hr : r < 2 * y) : FP.Core.nearest x y = if y < r ∨ r = y ∧ d % 2 = 1 then d + 1 else d := by
  obtain ⟨s, rfl⟩ : ∃ s, r = 2 * s := ⟨r / 2, by omega⟩
  have hx : x = y * d + s := by rw [Nat.mul_comm y d]; omega
  have e1 : x % y = s := by rw [hx, Nat.mul_add_mod, Nat.mod_eq_of_lt (by omega)]
  have e2 : x / y = d := by rw [hx, Nat.mul_add_div (by omega), Nat.div_eq_of_lt (by omega), Nat.add_zero]
  unfold FP.Core.nearest
  rw [e1, e2]
  by_cases c1 : 2 * s < y
  · rw [if_pos c1, if_neg (by omega)]
  · rw [if_neg c1]
    by_cases c2 : y < 2 * s
    · rw [if_pos c2, if_pos (Or.inl c2)]
    · rw [if_neg c2]
      by_cases c3 : d % 2 = 1
      · rw [if_pos (Or.inr ⟨by omega, c3⟩)]; omega
      · rw [if_neg (by omega)]; omega
/-- long division comes to the same -/
theorem qotB_div {a b x y d r : Int} {u v : Nat} (ha : 0 < a ∧ a < 2147483648) (hb : 0 < b ∧ b < 2147483648) (hx : x = a * ((2 ^ v : Nat) : Int)) (hy : y = b * ((2 ^ u : Nat) : Int)) (h1 : y ≤ x) (h2 : x < 2 * y) (hd : 0 ≤ d) (hr : 0 ≤ r ∧ r < 2 * y) (h : 2 * (d * y) + r = 9007199254740992 * x) : qotB a b = ((u : Int) - v + 1022) * 4503599627370496 + (if y < r ∨ r = y ∧ d % 2 = 1 then d + 1 else d) := by
  have ex : x = ((a.toNat * 2 ^ v : Nat) : Int) := by rw [hx, Int.natCast_mul, Int.toNat_of_nonneg (by omega)]
  have ey : y = ((b.toNat * 2 ^ u : Nat) : Int) := by rw [hy, Int.natCast_mul, Int.toNat_of_nonneg (by omega)]
  clear hx hy
  obtain ⟨R, e, hR, eR⟩ := ddiv_bits (u := u) (v := v) ha hb (by omega) (by omega)
  have hq : qotB a b = (R : Int) := by
    unfold qotB
    rw [if_neg (by omega), e, (fin_bits hR).2.2]
  rw [hq, eR]
  obtain ⟨dn, rfl⟩ : ∃ dn : Nat, d = dn := ⟨d.toNat, by omega⟩
  obtain ⟨rn, rfl⟩ : ∃ rn : Nat, r = rn := ⟨r.toNat, by omega⟩
  generalize a.toNat * 2 ^ v = X at *
  generalize b.toNat * 2 ^ u = Y at *
  subst ex ey
  have hm : ((dn * Y : Nat) : Int) = (dn : Int) * (Y : Int) := Int.natCast_mul _ _
  rw [near_div (x := X * 4503599627370496) (y := Y) (d := dn) (r := rn) (by omega) (by omega)]
  by_cases c : Y < rn ∨ rn = Y ∧ dn % 2 = 1
  · rw [if_pos c, if_pos (by omega)]; omega
  · rw [if_neg c, if_neg (by omega)]
theorem pw_s (n : Nat) : ((2 ^ (n + 1) : Nat) : Int) = 2 * ((2 ^ n : Nat) : Int) := by rw [Nat.pow_succ]; omega
theorem pw_pos (n : Nat) : 1 ≤ ((2 ^ n : Nat) : Int) := by have := Nat.one_le_two_pow (n := n); omega
theorem pw_53 {n : Nat} (h : n ≤ 53) : ((2 ^ n : Nat) : Int) ≤ 9007199254740992 := by
  have := Nat.pow_le_pow_right (n := 2) (by decide) h
  have e : 2 ^ 53 = 9007199254740992 := by decide
  omega
theorem pw_bd {a : Int} {v : Nat} (ha : 1 ≤ a) (h : a * ((2 ^ v : Nat) : Int) < 4294967296) : v < 32 := by
  by_cases q : v < 32
  · exact q
  · have e := Nat.pow_le_pow_right (n := 2) (by decide) (show 32 ≤ v by omega)
    have e2 : 2 ^ 32 = 4294967296 := by decide
    have hp := pw_pos v
    have := Int.mul_le_mul_of_nonneg_right ha (show 0 ≤ ((2 ^ v : Nat) : Int) by omega)
    omega
theorem rest_bd {a b rest : Int} {v : Nat} (ha : 0 < a ∧ a < 2147483648) (hb : 0 < b ∧ b < 2147483648) (hr : rest = a * ((2 ^ v : Nat) : Int)) (h : v = 0 ∨ rest < 2 * b) : 0 < rest ∧ rest < 4294967296 ∧ v < 32 := by
  have hp := pw_pos v
  have hpos : 0 < rest := by rw [hr]; exact Int.mul_pos ha.1 (by omega)
  have hlt : rest < 4294967296 := by
    rcases h with rfl | h
    · rw [hr]; show a * 1 < _; omega
    · omega
  exact ⟨hpos, hlt, pw_bd (a := a) (by omega) (by rw [← hr]; exact hlt)⟩
theorem lshl_52 {x : Int} (h : 0 ≤ x ∧ x ≤ 1100) : lshl x 52 = x * 4503599627370496 := by
  have p : ((2 ^ 52 : Nat) : Int) = 4503599627370496 := by decide
  have := lshl_k (x := x) (r := 52) (by decide) h.1 (by rw [p]; omega)
  rw [p] at this
  exact this
theorem p53 : ((2 ^ 53 : Nat) : Int) = 9007199254740992 := by decide
theorem dX7_bitsOfQuotient_0 : decode cX7_bitsOfQuotient 0 = .ok (.lload_n 0, 1) := by decide +kernel
theorem dX7_bitsOfQuotient_1 : decode cX7_bitsOfQuotient 1 = .ok (.lconst 0, 1) := by decide +kernel
theorem dX7_bitsOfQuotient_2 : decode cX7_bitsOfQuotient 2 = .ok (.lcmp, 1) := by decide +kernel
theorem dX7_bitsOfQuotient_3 : decode cX7_bitsOfQuotient 3 = .ok (.ifCond .le 9, 3) := by decide +kernel
theorem dX7_bitsOfQuotient_6 : decode cX7_bitsOfQuotient 6 = .ok (.lload_n 2, 1) := by decide +kernel
theorem dX7_bitsOfQuotient_7 : decode cX7_bitsOfQuotient 7 = .ok (.lconst 0, 1) := by decide +kernel
theorem dX7_bitsOfQuotient_8 : decode cX7_bitsOfQuotient 8 = .ok (.lcmp, 1) := by decide +kernel
theorem dX7_bitsOfQuotient_9 : decode cX7_bitsOfQuotient 9 = .ok (.ifCond .gt 5, 3) := by decide +kernel
theorem dX7_bitsOfQuotient_12 : decode cX7_bitsOfQuotient 12 = .ok (.lconst 0, 1) := by decide +kernel
theorem dX7_bitsOfQuotient_13 : decode cX7_bitsOfQuotient 13 = .ok (.lreturn, 1) := by decide +kernel
theorem dX7_bitsOfQuotient_14 : decode cX7_bitsOfQuotient 14 = .ok (.lload_n 0, 1) := by decide +kernel
theorem dX7_bitsOfQuotient_15 : decode cX7_bitsOfQuotient 15 = .ok (.lstore 4, 2) := by decide +kernel
theorem dX7_bitsOfQuotient_17 : decode cX7_bitsOfQuotient 17 = .ok (.lload_n 2, 1) := by decide +kernel
theorem dX7_bitsOfQuotient_18 : decode cX7_bitsOfQuotient 18 = .ok (.lstore 6, 2) := by decide +kernel
theorem dX7_bitsOfQuotient_20 : decode cX7_bitsOfQuotient 20 = .ok (.iconst 0, 1) := by decide +kernel
theorem dX7_bitsOfQuotient_21 : decode cX7_bitsOfQuotient 21 = .ok (.istore 8, 2) := by decide +kernel
theorem dX7_bitsOfQuotient_23 : decode cX7_bitsOfQuotient 23 = .ok (.iconst 0, 1) := by decide +kernel
theorem dX7_bitsOfQuotient_24 : decode cX7_bitsOfQuotient 24 = .ok (.istore 9, 2) := by decide +kernel
theorem dX7_bitsOfQuotient_26 : decode cX7_bitsOfQuotient 26 = .ok (.iload 9, 2) := by decide +kernel
theorem dX7_bitsOfQuotient_28 : decode cX7_bitsOfQuotient 28 = .ok (.bipush 64, 2) := by decide +kernel
theorem dX7_bitsOfQuotient_30 : decode cX7_bitsOfQuotient 30 = .ok (.if_icmp .ge 26, 3) := by decide +kernel
theorem dX7_bitsOfQuotient_33 : decode cX7_bitsOfQuotient 33 = .ok (.lload 4, 2) := by decide +kernel
theorem dX7_bitsOfQuotient_35 : decode cX7_bitsOfQuotient 35 = .ok (.lload 6, 2) := by decide +kernel
theorem dX7_bitsOfQuotient_37 : decode cX7_bitsOfQuotient 37 = .ok (.lcmp, 1) := by decide +kernel
theorem dX7_bitsOfQuotient_38 : decode cX7_bitsOfQuotient 38 = .ok (.ifCond .ge 18, 3) := by decide +kernel
theorem dX7_bitsOfQuotient_41 : decode cX7_bitsOfQuotient 41 = .ok (.lload 4, 2) := by decide +kernel
theorem dX7_bitsOfQuotient_43 : decode cX7_bitsOfQuotient 43 = .ok (.iconst 1, 1) := by decide +kernel
theorem dX7_bitsOfQuotient_44 : decode cX7_bitsOfQuotient 44 = .ok (.lshl, 1) := by decide +kernel
theorem dX7_bitsOfQuotient_45 : decode cX7_bitsOfQuotient 45 = .ok (.lstore 4, 2) := by decide +kernel
theorem dX7_bitsOfQuotient_47 : decode cX7_bitsOfQuotient 47 = .ok (.iinc 8 (-1), 3) := by decide +kernel
theorem dX7_bitsOfQuotient_50 : decode cX7_bitsOfQuotient 50 = .ok (.iinc 9 1, 3) := by decide +kernel
theorem dX7_bitsOfQuotient_53 : decode cX7_bitsOfQuotient 53 = .ok (.goto (-27), 3) := by decide +kernel
theorem dX7_bitsOfQuotient_56 : decode cX7_bitsOfQuotient 56 = .ok (.iconst 0, 1) := by decide +kernel
theorem dX7_bitsOfQuotient_57 : decode cX7_bitsOfQuotient 57 = .ok (.istore 9, 2) := by decide +kernel
theorem dX7_bitsOfQuotient_59 : decode cX7_bitsOfQuotient 59 = .ok (.iload 9, 2) := by decide +kernel
theorem dX7_bitsOfQuotient_61 : decode cX7_bitsOfQuotient 61 = .ok (.bipush 64, 2) := by decide +kernel
theorem dX7_bitsOfQuotient_63 : decode cX7_bitsOfQuotient 63 = .ok (.if_icmp .ge 29, 3) := by decide +kernel
theorem dX7_bitsOfQuotient_66 : decode cX7_bitsOfQuotient 66 = .ok (.lload 4, 2) := by decide +kernel
theorem dX7_bitsOfQuotient_68 : decode cX7_bitsOfQuotient 68 = .ok (.lload 6, 2) := by decide +kernel
theorem dX7_bitsOfQuotient_70 : decode cX7_bitsOfQuotient 70 = .ok (.lsub, 1) := by decide +kernel
theorem dX7_bitsOfQuotient_71 : decode cX7_bitsOfQuotient 71 = .ok (.lload 6, 2) := by decide +kernel
theorem dX7_bitsOfQuotient_73 : decode cX7_bitsOfQuotient 73 = .ok (.lcmp, 1) := by decide +kernel
theorem dX7_bitsOfQuotient_74 : decode cX7_bitsOfQuotient 74 = .ok (.ifCond .lt 18, 3) := by decide +kernel
theorem dX7_bitsOfQuotient_77 : decode cX7_bitsOfQuotient 77 = .ok (.lload 6, 2) := by decide +kernel
theorem dX7_bitsOfQuotient_79 : decode cX7_bitsOfQuotient 79 = .ok (.iconst 1, 1) := by decide +kernel
theorem dX7_bitsOfQuotient_80 : decode cX7_bitsOfQuotient 80 = .ok (.lshl, 1) := by decide +kernel
theorem dX7_bitsOfQuotient_81 : decode cX7_bitsOfQuotient 81 = .ok (.lstore 6, 2) := by decide +kernel
theorem dX7_bitsOfQuotient_83 : decode cX7_bitsOfQuotient 83 = .ok (.iinc 8 1, 3) := by decide +kernel
theorem dX7_bitsOfQuotient_86 : decode cX7_bitsOfQuotient 86 = .ok (.iinc 9 1, 3) := by decide +kernel
theorem dX7_bitsOfQuotient_89 : decode cX7_bitsOfQuotient 89 = .ok (.goto (-30), 3) := by decide +kernel
theorem dX7_bitsOfQuotient_92 : decode cX7_bitsOfQuotient 92 = .ok (.lconst 0, 1) := by decide +kernel
theorem dX7_bitsOfQuotient_93 : decode cX7_bitsOfQuotient 93 = .ok (.lstore 9, 2) := by decide +kernel
theorem dX7_bitsOfQuotient_95 : decode cX7_bitsOfQuotient 95 = .ok (.iconst 0, 1) := by decide +kernel
theorem dX7_bitsOfQuotient_96 : decode cX7_bitsOfQuotient 96 = .ok (.istore 11, 2) := by decide +kernel
theorem dX7_bitsOfQuotient_98 : decode cX7_bitsOfQuotient 98 = .ok (.iload 11, 2) := by decide +kernel
theorem dX7_bitsOfQuotient_100 : decode cX7_bitsOfQuotient 100 = .ok (.bipush 53, 2) := by decide +kernel
theorem dX7_bitsOfQuotient_102 : decode cX7_bitsOfQuotient 102 = .ok (.if_icmp .ge 42, 3) := by decide +kernel
theorem dX7_bitsOfQuotient_105 : decode cX7_bitsOfQuotient 105 = .ok (.lload 9, 2) := by decide +kernel
theorem dX7_bitsOfQuotient_107 : decode cX7_bitsOfQuotient 107 = .ok (.iconst 1, 1) := by decide +kernel
theorem dX7_bitsOfQuotient_108 : decode cX7_bitsOfQuotient 108 = .ok (.lshl, 1) := by decide +kernel
theorem dX7_bitsOfQuotient_109 : decode cX7_bitsOfQuotient 109 = .ok (.lstore 9, 2) := by decide +kernel
theorem dX7_bitsOfQuotient_111 : decode cX7_bitsOfQuotient 111 = .ok (.lload 4, 2) := by decide +kernel
theorem dX7_bitsOfQuotient_113 : decode cX7_bitsOfQuotient 113 = .ok (.lload 6, 2) := by decide +kernel
theorem dX7_bitsOfQuotient_115 : decode cX7_bitsOfQuotient 115 = .ok (.lcmp, 1) := by decide +kernel
theorem dX7_bitsOfQuotient_116 : decode cX7_bitsOfQuotient 116 = .ok (.ifCond .lt 16, 3) := by decide +kernel
theorem dX7_bitsOfQuotient_119 : decode cX7_bitsOfQuotient 119 = .ok (.lload 9, 2) := by decide +kernel
theorem dX7_bitsOfQuotient_121 : decode cX7_bitsOfQuotient 121 = .ok (.lconst 1, 1) := by decide +kernel
theorem dX7_bitsOfQuotient_122 : decode cX7_bitsOfQuotient 122 = .ok (.ladd, 1) := by decide +kernel
theorem dX7_bitsOfQuotient_123 : decode cX7_bitsOfQuotient 123 = .ok (.lstore 9, 2) := by decide +kernel
theorem dX7_bitsOfQuotient_125 : decode cX7_bitsOfQuotient 125 = .ok (.lload 4, 2) := by decide +kernel
theorem dX7_bitsOfQuotient_127 : decode cX7_bitsOfQuotient 127 = .ok (.lload 6, 2) := by decide +kernel
theorem dX7_bitsOfQuotient_129 : decode cX7_bitsOfQuotient 129 = .ok (.lsub, 1) := by decide +kernel
theorem dX7_bitsOfQuotient_130 : decode cX7_bitsOfQuotient 130 = .ok (.lstore 4, 2) := by decide +kernel
theorem dX7_bitsOfQuotient_132 : decode cX7_bitsOfQuotient 132 = .ok (.lload 4, 2) := by decide +kernel
theorem dX7_bitsOfQuotient_134 : decode cX7_bitsOfQuotient 134 = .ok (.iconst 1, 1) := by decide +kernel
theorem dX7_bitsOfQuotient_135 : decode cX7_bitsOfQuotient 135 = .ok (.lshl, 1) := by decide +kernel
theorem dX7_bitsOfQuotient_136 : decode cX7_bitsOfQuotient 136 = .ok (.lstore 4, 2) := by decide +kernel
theorem dX7_bitsOfQuotient_138 : decode cX7_bitsOfQuotient 138 = .ok (.iinc 11 1, 3) := by decide +kernel
theorem dX7_bitsOfQuotient_141 : decode cX7_bitsOfQuotient 141 = .ok (.goto (-43), 3) := by decide +kernel
theorem dX7_bitsOfQuotient_144 : decode cX7_bitsOfQuotient 144 = .ok (.lload 4, 2) := by decide +kernel
theorem dX7_bitsOfQuotient_146 : decode cX7_bitsOfQuotient 146 = .ok (.lload 6, 2) := by decide +kernel
theorem dX7_bitsOfQuotient_148 : decode cX7_bitsOfQuotient 148 = .ok (.lcmp, 1) := by decide +kernel
theorem dX7_bitsOfQuotient_149 : decode cX7_bitsOfQuotient 149 = .ok (.ifCond .gt 20, 3) := by decide +kernel
theorem dX7_bitsOfQuotient_152 : decode cX7_bitsOfQuotient 152 = .ok (.lload 4, 2) := by decide +kernel
theorem dX7_bitsOfQuotient_154 : decode cX7_bitsOfQuotient 154 = .ok (.lload 6, 2) := by decide +kernel
theorem dX7_bitsOfQuotient_156 : decode cX7_bitsOfQuotient 156 = .ok (.lcmp, 1) := by decide +kernel
theorem dX7_bitsOfQuotient_157 : decode cX7_bitsOfQuotient 157 = .ok (.ifCond .ne 18, 3) := by decide +kernel
theorem dX7_bitsOfQuotient_160 : decode cX7_bitsOfQuotient 160 = .ok (.lload 9, 2) := by decide +kernel
theorem dX7_bitsOfQuotient_162 : decode cX7_bitsOfQuotient 162 = .ok (.lconst 1, 1) := by decide +kernel
theorem dX7_bitsOfQuotient_163 : decode cX7_bitsOfQuotient 163 = .ok (.land, 1) := by decide +kernel
theorem dX7_bitsOfQuotient_164 : decode cX7_bitsOfQuotient 164 = .ok (.lconst 1, 1) := by decide +kernel
theorem dX7_bitsOfQuotient_165 : decode cX7_bitsOfQuotient 165 = .ok (.lcmp, 1) := by decide +kernel
theorem dX7_bitsOfQuotient_166 : decode cX7_bitsOfQuotient 166 = .ok (.ifCond .ne 9, 3) := by decide +kernel
theorem dX7_bitsOfQuotient_169 : decode cX7_bitsOfQuotient 169 = .ok (.lload 9, 2) := by decide +kernel
theorem dX7_bitsOfQuotient_171 : decode cX7_bitsOfQuotient 171 = .ok (.lconst 1, 1) := by decide +kernel
theorem dX7_bitsOfQuotient_172 : decode cX7_bitsOfQuotient 172 = .ok (.ladd, 1) := by decide +kernel
theorem dX7_bitsOfQuotient_173 : decode cX7_bitsOfQuotient 173 = .ok (.lstore 9, 2) := by decide +kernel
theorem dX7_bitsOfQuotient_175 : decode cX7_bitsOfQuotient 175 = .ok (.iload 8, 2) := by decide +kernel
theorem dX7_bitsOfQuotient_177 : decode cX7_bitsOfQuotient 177 = .ok (.sipush 1022, 3) := by decide +kernel
theorem dX7_bitsOfQuotient_180 : decode cX7_bitsOfQuotient 180 = .ok (.iadd, 1) := by decide +kernel
theorem dX7_bitsOfQuotient_181 : decode cX7_bitsOfQuotient 181 = .ok (.i2l, 1) := by decide +kernel
theorem dX7_bitsOfQuotient_182 : decode cX7_bitsOfQuotient 182 = .ok (.bipush 52, 2) := by decide +kernel
theorem dX7_bitsOfQuotient_184 : decode cX7_bitsOfQuotient 184 = .ok (.lshl, 1) := by decide +kernel
theorem dX7_bitsOfQuotient_185 : decode cX7_bitsOfQuotient 185 = .ok (.lload 9, 2) := by decide +kernel
theorem dX7_bitsOfQuotient_187 : decode cX7_bitsOfQuotient 187 = .ok (.ladd, 1) := by decide +kernel
theorem dX7_bitsOfQuotient_188 : decode cX7_bitsOfQuotient 188 = .ok (.lreturn, 1) := by decide +kernel
set_option maxHeartbeats 4000000 in
set_option maxRecDepth 100000 in
theorem m_X7_bitsOfQuotient (l : Launch) (a : Int) (b : Int) (mem : Mem) (ha : -2147483648 ≤ a ∧ a < 2147483648) (hb : -2147483648 ≤ b ∧ b < 2147483648) : Ret shp l yX7_bitsOfQuotient cX7_bitsOfQuotient 12 (some .long) 0 [pL a, pL b] mem (fun rv mv => rv = some (pL (qotB a b)) ∧ mem = mv) := by
  refine ret_of (by decide +kernel) (Nat.le_of_ble_eq_true rfl) (fun X hX F G => ?_)
  show Ok shp X 12 0 [(0, pL a), (2, pL b)] [] mem
  refine ok_lload_n F dX7_bitsOfQuotient_0 0 rfl ?_
  refine ok_lconst (z := 0) F dX7_bitsOfQuotient_1 rfl ?_
  refine ok_lif_le F 12 dX7_bitsOfQuotient_2 dX7_bitsOfQuotient_3 (by decide) (by omega) (by omega) (fun c_1 => ?_) (fun c_1 => ?_)
  · refine ok_lconst (z := 0) F dX7_bitsOfQuotient_12 rfl ?_
    refine ok_lret F G dX7_bitsOfQuotient_13 ?_
    refine ⟨?_, rfl⟩
    unfold qotB
    rw [if_pos (by omega)]
  · refine ok_lload_n F dX7_bitsOfQuotient_6 1 rfl ?_
    refine ok_lconst (z := 0) F dX7_bitsOfQuotient_7 rfl ?_
    refine ok_lif_gt F 14 dX7_bitsOfQuotient_8 dX7_bitsOfQuotient_9 (by decide) (by omega) (by omega) (fun c_2 => ?_) (fun c_2 => ?_)
    · refine ok_lload_n F dX7_bitsOfQuotient_14 0 rfl ?_
      refine ok_lstore (lv' := [(4, pL a), (0, pL a), (2, pL b)]) F dX7_bitsOfQuotient_15 (by decide) rfl ?_
      refine ok_lload_n F dX7_bitsOfQuotient_17 2 rfl ?_
      refine ok_lstore (lv' := [(6, pL b), (4, pL a), (0, pL a), (2, pL b)]) F dX7_bitsOfQuotient_18 (by decide) rfl ?_
      refine ok_iconst F dX7_bitsOfQuotient_20 ?_
      refine ok_istore (lv' := [(8, pI 0), (6, pL b), (4, pL a), (0, pL a), (2, pL b)]) F dX7_bitsOfQuotient_21 (by decide) rfl ?_
      refine ok_iconst F dX7_bitsOfQuotient_23 ?_
      refine ok_istore (lv' := [(9, pI 0), (8, pI 0), (6, pL b), (4, pL a), (0, pL a), (2, pL b)]) F dX7_bitsOfQuotient_24 (by decide) rfl ?_
      have hL_26 : ∀ (n_26 : Nat) (rest : Int) (w : Int) (i : Int), (∃ v : Nat, (v : Int) = i ∧ w = -i ∧ rest = a * ((2 ^ v : Nat) : Int) ∧ (v = 0 ∨ rest < 2 * b)) → (64 - i).toNat = n_26 → Ok shp X 12 26 [(0, pL a), (2, pL b), (4, pL rest), (6, pL b), (8, pI w), (9, pI i)] [] mem := by
        intro n_26
        induction n_26 using Nat.strongRecOn with
        | _ n_26 ih_26 =>
          intro rest w i hI_26 hn_26
          obtain ⟨v, hvi, hw, hr, hv0⟩ := hI_26
          obtain ⟨hrp, hrl, hv32⟩ := rest_bd (by omega) (by omega) hr hv0
          have hl : lshl rest 1 = 2 * rest := lshl_1 (by omega)
          refine ok_iload F dX7_bitsOfQuotient_26 5 rfl ?_
          refine ok_bipush F dX7_bitsOfQuotient_28 rfl ?_
          refine ok_icmp_ge F 56 dX7_bitsOfQuotient_30 (by decide) (by omega) (by omega) (fun c_3 => ?_) (fun c_3 => ?_)
          · exfalso; omega
          · refine ok_lload F dX7_bitsOfQuotient_33 2 rfl ?_
            refine ok_lload F dX7_bitsOfQuotient_35 3 rfl ?_
            refine ok_lif_ge F 56 dX7_bitsOfQuotient_37 dX7_bitsOfQuotient_38 (by decide) (by omega) (by omega) (fun c_4 => ?_) (fun c_4 => ?_)
            · refine ok_iconst F dX7_bitsOfQuotient_56 ?_
              refine ok_istore (lv' := [(9, pI 0), (0, pL a), (2, pL b), (4, pL rest), (6, pL b), (8, pI w)]) F dX7_bitsOfQuotient_57 (by decide) rfl ?_
              have hL_59 : ∀ (n_59 : Nat) (y : Int) (w2 : Int) (j : Int), (∃ u : Nat, (u : Int) = j ∧ w2 = (u : Int) - v ∧ y = b * ((2 ^ u : Nat) : Int) ∧ y ≤ rest) → (64 - j).toNat = n_59 → Ok shp X 12 59 [(0, pL a), (2, pL b), (4, pL rest), (6, pL y), (8, pI w2), (9, pI j)] [] mem := by
                intro n_59
                induction n_59 using Nat.strongRecOn with
                | _ n_59 ih_59 =>
                  intro y w2 j hI_59 hn_59
                  obtain ⟨u, huj, hw2, hy, hyr⟩ := hI_59
                  have hyp : 0 < y := by rw [hy]; have := pw_pos u; exact Int.mul_pos (by omega) (by omega)
                  have hu32 := pw_bd (a := b) (v := u) (by omega) (by rw [← hy]; omega)
                  have hly : lshl y 1 = 2 * y := lshl_1 (by omega)
                  refine ok_iload F dX7_bitsOfQuotient_59 5 rfl ?_
                  refine ok_bipush F dX7_bitsOfQuotient_61 rfl ?_
                  refine ok_icmp_ge F 92 dX7_bitsOfQuotient_63 (by decide) (by omega) (by omega) (fun c_5 => ?_) (fun c_5 => ?_)
                  · exfalso; omega
                  · refine ok_lload F dX7_bitsOfQuotient_66 2 rfl ?_
                    refine ok_lload F dX7_bitsOfQuotient_68 3 rfl ?_
                    refine ok_lsub F dX7_bitsOfQuotient_70 ?_
                    refine ok_lload F dX7_bitsOfQuotient_71 3 rfl ?_
                    refine ok_lif_lt F 92 dX7_bitsOfQuotient_73 dX7_bitsOfQuotient_74 (by decide) (by omega) (by omega) (fun c_6 => ?_) (fun c_6 => ?_)
                    · refine ok_lconst (z := 0) F dX7_bitsOfQuotient_92 rfl ?_
                      refine ok_lstore (lv' := [(9, pL 0), (0, pL a), (2, pL b), (4, pL rest), (6, pL y), (8, pI w2)]) F dX7_bitsOfQuotient_93 (by decide) rfl ?_
                      refine ok_iconst F dX7_bitsOfQuotient_95 ?_
                      refine ok_istore (lv' := [(11, pI 0), (9, pL 0), (0, pL a), (2, pL b), (4, pL rest), (6, pL y), (8, pI w2)]) F dX7_bitsOfQuotient_96 (by decide) rfl ?_
                      have hL_98 : ∀ (n_98 : Nat) (r : Int) (d : Int) (k : Int), (∃ n : Nat, (n : Int) = k ∧ n ≤ 53 ∧ 0 ≤ d ∧ d + 1 ≤ ((2 ^ n : Nat) : Int) ∧ 0 ≤ r ∧ r < 2 * y ∧ 2 * (d * y) + r = rest * ((2 ^ n : Nat) : Int)) → (53 - k).toNat = n_98 → Ok shp X 12 98 [(0, pL a), (2, pL b), (4, pL r), (6, pL y), (8, pI w2), (9, pL d), (11, pI k)] [] mem := by
                        intro n_98
                        induction n_98 using Nat.strongRecOn with
                        | _ n_98 ih_98 =>
                          intro r d k hI_98 hn_98
                          obtain ⟨n, hnk, hn53, hd0, hdn, hr0, hr2, hE⟩ := hI_98
                          have hpn := pw_53 hn53
                          have hl1 : lshl d 1 = 2 * d := lshl_1 (by omega)
                          have hl2 : lshl r 1 = 2 * r := lshl_1 (by omega)
                          have hl3 : r < y ∨ lshl (r - y) 1 = 2 * (r - y) := by
                            by_cases q : r < y
                            · exact Or.inl q
                            · exact Or.inr (lshl_1 (by omega))
                          have hpar := land_par (x := d) (by omega)
                          refine ok_iload F dX7_bitsOfQuotient_98 6 rfl ?_
                          refine ok_bipush F dX7_bitsOfQuotient_100 rfl ?_
                          refine ok_icmp_ge F 144 dX7_bitsOfQuotient_102 (by decide) (by omega) (by omega) (fun c_7 => ?_) (fun c_7 => ?_)
                          · refine ok_lload F dX7_bitsOfQuotient_144 2 rfl ?_
                            refine ok_lload F dX7_bitsOfQuotient_146 3 rfl ?_
                            refine ok_lif_gt F 169 dX7_bitsOfQuotient_148 dX7_bitsOfQuotient_149 (by decide) (by omega) (by omega) (fun c_8 => ?_) (fun c_8 => ?_)
                            · refine ok_lload F dX7_bitsOfQuotient_169 5 rfl ?_
                              refine ok_lconst (z := 1) F dX7_bitsOfQuotient_171 rfl ?_
                              refine ok_ladd F dX7_bitsOfQuotient_172 ?_
                              refine ok_lstore (lv' := [(9, pL (d + 1)), (0, pL a), (2, pL b), (4, pL r), (6, pL y), (8, pI w2), (11, pI k)]) F dX7_bitsOfQuotient_173 (by decide) rfl ?_
                              refine ok_iload F dX7_bitsOfQuotient_175 5 rfl ?_
                              refine ok_sipush F dX7_bitsOfQuotient_177 rfl ?_
                              refine ok_iadd F dX7_bitsOfQuotient_180 ?_
                              refine ok_i2l F dX7_bitsOfQuotient_181 (by omega) ?_
                              refine ok_bipush F dX7_bitsOfQuotient_182 rfl ?_
                              refine ok_lshl F dX7_bitsOfQuotient_184 ?_
                              refine ok_lload F dX7_bitsOfQuotient_185 0 rfl ?_
                              refine ok_ladd F dX7_bitsOfQuotient_187 ?_
                              refine ok_lret F G dX7_bitsOfQuotient_188 ?_
                              have hn : n = 53 := by omega
                              rw [hn, p53] at hE
                              have hE2 : 2 * (d * y) + r = 9007199254740992 * rest := by rw [hE, Int.mul_comm]
                              have hqd := qotB_div (a := a) (b := b) (u := u) (v := v) (by omega) (by omega) hr hy hyr (by omega) hd0 ⟨hr0, hr2⟩ hE2
                              have hl52 := lshl_52 (x := w2 + 1022) (by omega)
                              refine ⟨?_, rfl⟩
                              rw [hqd, hl52, hw2]
                              first
                                | rw [if_pos (by omega)]
                                | rw [if_neg (by omega)]
                            · refine ok_lload F dX7_bitsOfQuotient_152 2 rfl ?_
                              refine ok_lload F dX7_bitsOfQuotient_154 3 rfl ?_
                              refine ok_lif_ne F 175 dX7_bitsOfQuotient_156 dX7_bitsOfQuotient_157 (by decide) (by omega) (by omega) (fun c_9 => ?_) (fun c_9 => ?_)
                              · refine ok_iload F dX7_bitsOfQuotient_175 4 rfl ?_
                                refine ok_sipush F dX7_bitsOfQuotient_177 rfl ?_
                                refine ok_iadd F dX7_bitsOfQuotient_180 ?_
                                refine ok_i2l F dX7_bitsOfQuotient_181 (by omega) ?_
                                refine ok_bipush F dX7_bitsOfQuotient_182 rfl ?_
                                refine ok_lshl F dX7_bitsOfQuotient_184 ?_
                                refine ok_lload F dX7_bitsOfQuotient_185 5 rfl ?_
                                refine ok_ladd F dX7_bitsOfQuotient_187 ?_
                                refine ok_lret F G dX7_bitsOfQuotient_188 ?_
                                have hn : n = 53 := by omega
                                rw [hn, p53] at hE
                                have hE2 : 2 * (d * y) + r = 9007199254740992 * rest := by rw [hE, Int.mul_comm]
                                have hqd := qotB_div (a := a) (b := b) (u := u) (v := v) (by omega) (by omega) hr hy hyr (by omega) hd0 ⟨hr0, hr2⟩ hE2
                                have hl52 := lshl_52 (x := w2 + 1022) (by omega)
                                refine ⟨?_, rfl⟩
                                rw [hqd, hl52, hw2]
                                first
                                  | rw [if_pos (by omega)]
                                  | rw [if_neg (by omega)]
                              · refine ok_lload F dX7_bitsOfQuotient_160 5 rfl ?_
                                refine ok_lconst (z := 1) F dX7_bitsOfQuotient_162 rfl ?_
                                refine ok_land F dX7_bitsOfQuotient_163 ?_
                                refine ok_lconst (z := 1) F dX7_bitsOfQuotient_164 rfl ?_
                                refine ok_lif_ne F 175 dX7_bitsOfQuotient_165 dX7_bitsOfQuotient_166 (by decide) (by omega) (by omega) (fun c_10 => ?_) (fun c_10 => ?_)
                                · refine ok_iload F dX7_bitsOfQuotient_175 4 rfl ?_
                                  refine ok_sipush F dX7_bitsOfQuotient_177 rfl ?_
                                  refine ok_iadd F dX7_bitsOfQuotient_180 ?_
                                  refine ok_i2l F dX7_bitsOfQuotient_181 (by omega) ?_
                                  refine ok_bipush F dX7_bitsOfQuotient_182 rfl ?_
                                  refine ok_lshl F dX7_bitsOfQuotient_184 ?_
                                  refine ok_lload F dX7_bitsOfQuotient_185 5 rfl ?_
                                  refine ok_ladd F dX7_bitsOfQuotient_187 ?_
                                  refine ok_lret F G dX7_bitsOfQuotient_188 ?_
                                  have hn : n = 53 := by omega
                                  rw [hn, p53] at hE
                                  have hE2 : 2 * (d * y) + r = 9007199254740992 * rest := by rw [hE, Int.mul_comm]
                                  have hqd := qotB_div (a := a) (b := b) (u := u) (v := v) (by omega) (by omega) hr hy hyr (by omega) hd0 ⟨hr0, hr2⟩ hE2
                                  have hl52 := lshl_52 (x := w2 + 1022) (by omega)
                                  refine ⟨?_, rfl⟩
                                  rw [hqd, hl52, hw2]
                                  first
                                    | rw [if_pos (by omega)]
                                    | rw [if_neg (by omega)]
                                · refine ok_lload F dX7_bitsOfQuotient_169 5 rfl ?_
                                  refine ok_lconst (z := 1) F dX7_bitsOfQuotient_171 rfl ?_
                                  refine ok_ladd F dX7_bitsOfQuotient_172 ?_
                                  refine ok_lstore (lv' := [(9, pL (d + 1)), (0, pL a), (2, pL b), (4, pL r), (6, pL y), (8, pI w2), (11, pI k)]) F dX7_bitsOfQuotient_173 (by decide) rfl ?_
                                  refine ok_iload F dX7_bitsOfQuotient_175 5 rfl ?_
                                  refine ok_sipush F dX7_bitsOfQuotient_177 rfl ?_
                                  refine ok_iadd F dX7_bitsOfQuotient_180 ?_
                                  refine ok_i2l F dX7_bitsOfQuotient_181 (by omega) ?_
                                  refine ok_bipush F dX7_bitsOfQuotient_182 rfl ?_
                                  refine ok_lshl F dX7_bitsOfQuotient_184 ?_
                                  refine ok_lload F dX7_bitsOfQuotient_185 0 rfl ?_
                                  refine ok_ladd F dX7_bitsOfQuotient_187 ?_
                                  refine ok_lret F G dX7_bitsOfQuotient_188 ?_
                                  have hn : n = 53 := by omega
                                  rw [hn, p53] at hE
                                  have hE2 : 2 * (d * y) + r = 9007199254740992 * rest := by rw [hE, Int.mul_comm]
                                  have hqd := qotB_div (a := a) (b := b) (u := u) (v := v) (by omega) (by omega) hr hy hyr (by omega) hd0 ⟨hr0, hr2⟩ hE2
                                  have hl52 := lshl_52 (x := w2 + 1022) (by omega)
                                  refine ⟨?_, rfl⟩
                                  rw [hqd, hl52, hw2]
                                  first
                                    | rw [if_pos (by omega)]
                                    | rw [if_neg (by omega)]
                          · refine ok_lload F dX7_bitsOfQuotient_105 5 rfl ?_
                            refine ok_iconst F dX7_bitsOfQuotient_107 ?_
                            refine ok_lshl F dX7_bitsOfQuotient_108 ?_
                            refine ok_lstore (lv' := [(9, pL (lshl d 1)), (0, pL a), (2, pL b), (4, pL r), (6, pL y), (8, pI w2), (11, pI k)]) F dX7_bitsOfQuotient_109 (by decide) rfl ?_
                            refine ok_lload F dX7_bitsOfQuotient_111 3 rfl ?_
                            refine ok_lload F dX7_bitsOfQuotient_113 4 rfl ?_
                            refine ok_lif_lt F 132 dX7_bitsOfQuotient_115 dX7_bitsOfQuotient_116 (by decide) (by omega) (by omega) (fun c_11 => ?_) (fun c_11 => ?_)
                            · refine ok_lload F dX7_bitsOfQuotient_132 3 rfl ?_
                              refine ok_iconst F dX7_bitsOfQuotient_134 ?_
                              refine ok_lshl F dX7_bitsOfQuotient_135 ?_
                              refine ok_lstore (lv' := [(4, pL (lshl r 1)), (9, pL (lshl d 1)), (0, pL a), (2, pL b), (6, pL y), (8, pI w2), (11, pI k)]) F dX7_bitsOfQuotient_136 (by decide) rfl ?_
                              refine ok_iinc (lv' := [(11, pI (k + 1)), (4, pL (lshl r 1)), (9, pL (lshl d 1)), (0, pL a), (2, pL b), (6, pL y), (8, pI w2)]) F dX7_bitsOfQuotient_138 6 rfl (by decide) rfl ?_
                              refine ok_goto F 98 dX7_bitsOfQuotient_141 (by decide) ?_
                              refine ok_lvp [3, 4, 1, 5, 6, 2, 0] (lv' := [(0, pL a), (2, pL b), (4, pL (lshl r 1)), (6, pL y), (8, pI w2), (9, pL (lshl d 1)), (11, pI (k + 1))]) rfl ?_
                              refine ih_98 _ ?_ (lshl r 1) (lshl d 1) (k + 1) ?_ rfl
                              · omega
                              · have hq := pw_s n
                                have m1 : (2 * d + 1) * y = 2 * (d * y) + y := by rw [Int.add_mul, Int.mul_assoc, Int.one_mul]
                                have m2 : (2 * d) * y = 2 * (d * y) := Int.mul_assoc _ _ _
                                have m3 : rest * ((2 ^ (n + 1) : Nat) : Int) = 2 * (rest * ((2 ^ n : Nat) : Int)) := by rw [hq, Int.mul_left_comm]
                                refine ⟨n + 1, by omega, by omega, by omega, by omega, by omega, by omega, ?_⟩
                                first
                                  | (rw [hl1, m1, m3]; omega)
                                  | (rw [hl1, m2, m3]; omega)
                            · refine ok_lload F dX7_bitsOfQuotient_119 0 rfl ?_
                              refine ok_lconst (z := 1) F dX7_bitsOfQuotient_121 rfl ?_
                              refine ok_ladd F dX7_bitsOfQuotient_122 ?_
                              refine ok_lstore (lv' := [(9, pL ((lshl d 1) + 1)), (0, pL a), (2, pL b), (4, pL r), (6, pL y), (8, pI w2), (11, pI k)]) F dX7_bitsOfQuotient_123 (by decide) rfl ?_
                              refine ok_lload F dX7_bitsOfQuotient_125 3 rfl ?_
                              refine ok_lload F dX7_bitsOfQuotient_127 4 rfl ?_
                              refine ok_lsub F dX7_bitsOfQuotient_129 ?_
                              refine ok_lstore (lv' := [(4, pL (r - y)), (9, pL ((lshl d 1) + 1)), (0, pL a), (2, pL b), (6, pL y), (8, pI w2), (11, pI k)]) F dX7_bitsOfQuotient_130 (by decide) rfl ?_
                              refine ok_lload F dX7_bitsOfQuotient_132 0 rfl ?_
                              refine ok_iconst F dX7_bitsOfQuotient_134 ?_
                              refine ok_lshl F dX7_bitsOfQuotient_135 ?_
                              refine ok_lstore (lv' := [(4, pL (lshl (r - y) 1)), (9, pL ((lshl d 1) + 1)), (0, pL a), (2, pL b), (6, pL y), (8, pI w2), (11, pI k)]) F dX7_bitsOfQuotient_136 (by decide) rfl ?_
                              refine ok_iinc (lv' := [(11, pI (k + 1)), (4, pL (lshl (r - y) 1)), (9, pL ((lshl d 1) + 1)), (0, pL a), (2, pL b), (6, pL y), (8, pI w2)]) F dX7_bitsOfQuotient_138 6 rfl (by decide) rfl ?_
                              refine ok_goto F 98 dX7_bitsOfQuotient_141 (by decide) ?_
                              refine ok_lvp [3, 4, 1, 5, 6, 2, 0] (lv' := [(0, pL a), (2, pL b), (4, pL (lshl (r - y) 1)), (6, pL y), (8, pI w2), (9, pL ((lshl d 1) + 1)), (11, pI (k + 1))]) rfl ?_
                              refine ih_98 _ ?_ (lshl (r - y) 1) ((lshl d 1) + 1) (k + 1) ?_ rfl
                              · omega
                              · have hq := pw_s n
                                have m1 : (2 * d + 1) * y = 2 * (d * y) + y := by rw [Int.add_mul, Int.mul_assoc, Int.one_mul]
                                have m2 : (2 * d) * y = 2 * (d * y) := Int.mul_assoc _ _ _
                                have m3 : rest * ((2 ^ (n + 1) : Nat) : Int) = 2 * (rest * ((2 ^ n : Nat) : Int)) := by rw [hq, Int.mul_left_comm]
                                refine ⟨n + 1, by omega, by omega, by omega, by omega, by omega, by omega, ?_⟩
                                first
                                  | (rw [hl1, m1, m3]; omega)
                                  | (rw [hl1, m2, m3]; omega)
                      refine ok_lvp [2, 3, 4, 5, 6, 1, 0] (lv' := [(0, pL a), (2, pL b), (4, pL rest), (6, pL y), (8, pI w2), (9, pL 0), (11, pI 0)]) rfl ?_
                      refine hL_98 _ rest 0 0 ?_ rfl
                      refine ⟨0, rfl, by omega, by omega, by decide, by omega, by omega, ?_⟩
                      show 2 * (0 * y) + rest = rest * 1
                      rw [Int.zero_mul, Int.mul_one]; omega
                    · refine ok_lload F dX7_bitsOfQuotient_77 3 rfl ?_
                      refine ok_iconst F dX7_bitsOfQuotient_79 ?_
                      refine ok_lshl F dX7_bitsOfQuotient_80 ?_
                      refine ok_lstore (lv' := [(6, pL (lshl y 1)), (0, pL a), (2, pL b), (4, pL rest), (8, pI w2), (9, pI j)]) F dX7_bitsOfQuotient_81 (by decide) rfl ?_
                      refine ok_iinc (lv' := [(8, pI (w2 + 1)), (6, pL (lshl y 1)), (0, pL a), (2, pL b), (4, pL rest), (9, pI j)]) F dX7_bitsOfQuotient_83 4 rfl (by decide) rfl ?_
                      refine ok_iinc (lv' := [(9, pI (j + 1)), (8, pI (w2 + 1)), (6, pL (lshl y 1)), (0, pL a), (2, pL b), (4, pL rest)]) F dX7_bitsOfQuotient_86 5 rfl (by decide) rfl ?_
                      refine ok_goto F 59 dX7_bitsOfQuotient_89 (by decide) ?_
                      refine ok_lvp [3, 4, 5, 2, 1, 0] (lv' := [(0, pL a), (2, pL b), (4, pL rest), (6, pL (lshl y 1)), (8, pI (w2 + 1)), (9, pI (j + 1))]) rfl ?_
                      refine ih_59 _ ?_ (lshl y 1) (w2 + 1) (j + 1) ?_ rfl
                      · omega
                      · refine ⟨u + 1, by omega, by omega, ?_, by omega⟩
                        rw [hly, pw_s, hy, Int.mul_left_comm]
              refine ok_lvp [1, 2, 3, 4, 5, 0] (lv' := [(0, pL a), (2, pL b), (4, pL rest), (6, pL b), (8, pI w), (9, pI 0)]) rfl ?_
              refine hL_59 _ b w 0 ?_ rfl
              exact ⟨0, rfl, by omega, (Int.mul_one b).symm, by omega⟩
            · refine ok_lload F dX7_bitsOfQuotient_41 2 rfl ?_
              refine ok_iconst F dX7_bitsOfQuotient_43 ?_
              refine ok_lshl F dX7_bitsOfQuotient_44 ?_
              refine ok_lstore (lv' := [(4, pL (lshl rest 1)), (0, pL a), (2, pL b), (6, pL b), (8, pI w), (9, pI i)]) F dX7_bitsOfQuotient_45 (by decide) rfl ?_
              refine ok_iinc (lv' := [(8, pI (w + (-1))), (4, pL (lshl rest 1)), (0, pL a), (2, pL b), (6, pL b), (9, pI i)]) F dX7_bitsOfQuotient_47 4 rfl (by decide) rfl ?_
              refine ok_iinc (lv' := [(9, pI (i + 1)), (8, pI (w + (-1))), (4, pL (lshl rest 1)), (0, pL a), (2, pL b), (6, pL b)]) F dX7_bitsOfQuotient_50 5 rfl (by decide) rfl ?_
              refine ok_goto F 26 dX7_bitsOfQuotient_53 (by decide) ?_
              refine ok_lvp [3, 4, 2, 5, 1, 0] (lv' := [(0, pL a), (2, pL b), (4, pL (lshl rest 1)), (6, pL b), (8, pI (w + (-1))), (9, pI (i + 1))]) rfl ?_
              refine ih_26 _ ?_ (lshl rest 1) (w + (-1)) (i + 1) ?_ rfl
              · omega
              · refine ⟨v + 1, by omega, by omega, ?_, Or.inr (by omega)⟩
                rw [hl, pw_s, hr, Int.mul_left_comm]
      refine ok_lvp [4, 5, 3, 2, 1, 0] (lv' := [(0, pL a), (2, pL b), (4, pL a), (6, pL b), (8, pI 0), (9, pI 0)]) rfl ?_
      refine hL_26 _ a 0 0 ?_ rfl
      exact ⟨0, rfl, by omega, (Int.mul_one a).symm, Or.inl rfl⟩
    · refine ok_lconst (z := 0) F dX7_bitsOfQuotient_12 rfl ?_
      refine ok_lret F G dX7_bitsOfQuotient_13 ?_
      refine ⟨?_, rfl⟩
      unfold qotB
      rw [if_pos (by omega)]
