/-! words of 64 bits -/
def UB (z : Int) : Nat := (Int64.ofInt z).toBitVec.toNat
theorem UB_lt (z : Int) : UB z < 2 ^ 64 := (Int64.ofInt z).toBitVec.isLt
theorem UB_of (x : Int64) : UB x.toInt = x.toBitVec.toNat := by
  unfold UB
  rw [Int64.ofInt_toInt]
theorem UB_lor (x y : Int) : UB (lor x y) = UB x ||| UB y := by
  unfold lor
  rw [UB_of, Int64.toBitVec_or, BitVec.toNat_or]
  rfl
theorem UB_land (x y : Int) : UB (land x y) = UB x &&& UB y := by
  unfold land
  rw [UB_of, Int64.toBitVec_and, BitVec.toNat_and]
  rfl
theorem sh_key1 : ∀ r : Fin 64, ((Int32.ofInt (r.val : Int)).toInt64.toUInt64 &&& Int64.toUInt64 63).toNat % 64 = r.val := by decide +kernel
theorem sh_key2 : ∀ r : Fin 64, (((Int32.ofInt (r.val : Int)).toInt64 &&& 63).toBitVec.smod 64).toNat = r.val := by decide +kernel
theorem UB_lushr (x : Int) {r : Nat} (h : r < 64) : UB (lushr x r) = UB x / 2 ^ r := by
  unfold lushr
  rw [UB_of]
  show ((Int64.ofInt x).toUInt64 >>> ((Int32.ofInt (r : Int)).toInt64.toUInt64 &&& Int64.toUInt64 63)).toNat = _
  rw [UInt64.toNat_shiftRight, sh_key1 ⟨r, h⟩, Nat.shiftRight_eq_div_pow]
  rfl
theorem UB_lshl (x : Int) {r : Nat} (h : r < 64) : UB (lshl x r) = (UB x <<< r) % 2 ^ 64 := by
  unfold lshl
  rw [UB_of, Int64.toBitVec_shiftLeft, BitVec.shiftLeft_eq', sh_key2 ⟨r, h⟩, BitVec.toNat_shiftLeft]
  rfl
def wb (z : Int) (b : Nat) : Bool := (UB z).testBit b
theorem wb_lor (x y : Int) (b : Nat) : wb (lor x y) b = (wb x b || wb y b) := by
  unfold wb
  rw [UB_lor, Nat.testBit_or]
theorem wb_lushr (x : Int) {r : Nat} (h : r < 64) (b : Nat) : wb (lushr x r) b = wb x (r + b) := by
  unfold wb
  rw [UB_lushr x h, Nat.testBit_div_two_pow, Nat.add_comm]
theorem wb_lshl (x : Int) {r : Nat} (h : r < 64) {b : Nat} (hb : b < 64) : wb (lshl x r) b = (decide (r ≤ b) && wb x (b - r)) := by
  unfold wb
  rw [UB_lshl x h, Nat.testBit_mod_two_pow, decide_eq_true hb, Bool.true_and, Nat.testBit_shiftLeft]
theorem wb_ge (x : Int) {b : Nat} (hb : 64 ≤ b) : wb x b = false := by
  unfold wb
  exact Nat.testBit_lt_two_pow (Nat.lt_of_lt_of_le (UB_lt x) (Nat.pow_le_pow_right (by decide) hb))
theorem wb_1 (b : Nat) : wb 1 b = decide (b = 0) := by
  have e : UB 1 = 1 := by decide
  unfold wb
  rw [e]
  cases b with
  | zero => rfl
  | succ b => rw [Nat.testBit_succ]; simp
theorem wb_0 (b : Nat) : wb 0 b = false := by
  have e : UB 0 = 0 := by decide
  unfold wb
  rw [e, Nat.zero_testBit]
theorem UB_sub (x y : Int) : UB (x - y) = (2 ^ 64 + UB x - UB y) % 2 ^ 64 := by
  unfold UB
  rw [Int64.ofInt_sub, Int64.toBitVec_sub, BitVec.toNat_sub]
  have := UB_lt y
  unfold UB at this
  omega
theorem UB_add (x y : Int) : UB (x + y) = (UB x + UB y) % 2 ^ 64 := by
  unfold UB
  rw [Int64.ofInt_add, Int64.toBitVec_add, BitVec.toNat_add]
theorem iand_low (x : Int) : (iand x 127 : Int) = ((UB x % 128 : Nat) : Int) := by
  have e : iand x 127 = ((Int32.ofInt x).toBitVec &&& (127 : BitVec 32)).toInt := rfl
  have n1 : ((Int32.ofInt x).toBitVec &&& (127 : BitVec 32)).toNat = (Int32.ofInt x).toBitVec.toNat % 128 := by
    rw [BitVec.toNat_and]
    exact Nat.and_two_pow_sub_one_eq_mod _ 7
  rw [e, BitVec.toInt_eq_toNat_of_lt (by omega), n1]
  have a : (Int32.ofInt x).toBitVec = BitVec.ofInt 32 x := rfl
  have b : (Int64.ofInt x).toBitVec = BitVec.ofInt 64 x := rfl
  unfold UB
  rw [a, b, BitVec.toNat_ofInt, BitVec.toNat_ofInt]
  omega
theorem bit_lo (x : Int) : wb x 0 = decide (UB x % 2 = 1) := by
  unfold wb
  rw [Nat.testBit_zero]
theorem land_1 (x : Int) : land x 1 = if wb x 0 = true then 1 else 0 := by
  have h := UB_land x 1
  have e : UB 1 = 1 := by decide
  rw [e, Nat.and_one_is_mod] at h
  have hu : land x 1 = (Int64.ofInt x &&& Int64.ofInt 1).toInt := rfl
  have hb : (Int64.ofInt x &&& Int64.ofInt 1).toBitVec.toNat = UB x % 2 := by
    rw [← UB_of]; exact h
  have hc : (Int64.ofInt x &&& Int64.ofInt 1).toInt = ((UB x % 2 : Nat) : Int) := by
    show (Int64.ofInt x &&& Int64.ofInt 1).toBitVec.toInt = _
    rw [BitVec.toInt_eq_toNat_of_lt (by omega), hb]
  rw [hu, hc, bit_lo]
  by_cases g : UB x % 2 = 1
  · rw [decide_eq_true g, g]; rfl
  · rw [decide_eq_false g, show UB x % 2 = 0 by omega]; rfl
/-! counting bits, byte by byte -/
def mk8 (m : Nat) : Nat → Nat
  | 0 => 0
  | n + 1 => 256 * mk8 m n + m
theorem and_cat (H B M m : Nat) (hB : B < 256) (hm : m < 256) : (256 * H + B) &&& (256 * M + m) = 256 * (H &&& M) + (B &&& m) := by
  apply Nat.eq_of_testBit_eq
  intro i
  have e : ∀ a b : Nat, b < 256 → (256 * a + b).testBit i = if i < 8 then b.testBit i else a.testBit (i - 8) := fun a b h => Nat.testBit_two_pow_mul_add a (i := 8) h i
  rw [Nat.testBit_and, e H B hB, e M m hm, e (H &&& M) (B &&& m) (Nat.lt_of_le_of_lt Nat.and_le_left hB)]
  split
  · rw [Nat.testBit_and]
  · rw [Nat.testBit_and]
def bc1 (n X : Nat) : Nat := X - ((X / 2) &&& mk8 85 n)
def bc2 (n X : Nat) : Nat := (X &&& mk8 51 n) + ((X / 4) &&& mk8 51 n)
def bc3 (n X : Nat) : Nat := (X + X / 16) &&& mk8 15 n
def by1 (B : Nat) : Nat := B - ((B / 2) &&& 85)
def by2 (B : Nat) : Nat := (B &&& 51) + ((B / 4) &&& 51)
theorem m1_key : ∀ h : Fin 2, ∀ B : Fin 256, ((128 * h.val + B.val / 2) &&& 85) = ((B.val / 2) &&& 85) := by decide +kernel
theorem m2_key : ∀ h : Fin 4, ∀ B : Fin 256, ((64 * h.val + B.val / 4) &&& 51) = ((B.val / 4) &&& 51) := by decide +kernel
theorem bc1_s (n H B : Nat) (hB : B < 256) : bc1 (n + 1) (256 * H + B) = 256 * bc1 n H + by1 B := by
  unfold bc1 by1
  have e : (256 * H + B) / 2 = 256 * (H / 2) + (128 * (H % 2) + B / 2) := by omega
  have k : ((128 * (H % 2) + B / 2) &&& 85) = ((B / 2) &&& 85) := m1_key ⟨H % 2, by omega⟩ ⟨B, hB⟩
  have hl : (H / 2) &&& mk8 85 n ≤ H / 2 := Nat.and_le_left
  have hb : (B / 2) &&& 85 ≤ B / 2 := Nat.and_le_left
  show 256 * H + B - ((256 * H + B) / 2 &&& (256 * mk8 85 n + 85)) = _
  rw [e, and_cat _ _ _ _ (by omega) (by decide), k]
  omega
theorem bc2_s (n H B : Nat) (hB : B < 256) : bc2 (n + 1) (256 * H + B) = 256 * bc2 n H + by2 B := by
  unfold bc2 by2
  have e : (256 * H + B) / 4 = 256 * (H / 4) + (64 * (H % 4) + B / 4) := by omega
  have k : ((64 * (H % 4) + B / 4) &&& 51) = ((B / 4) &&& 51) := m2_key ⟨H % 4, by omega⟩ ⟨B, hB⟩
  show ((256 * H + B) &&& (256 * mk8 51 n + 51)) + ((256 * H + B) / 4 &&& (256 * mk8 51 n + 51)) = _
  rw [e, and_cat _ _ _ _ hB (by decide), and_cat _ _ _ _ (by omega) (by decide), k]
  omega
theorem bc3_s (n H B : Nat) (hB : B ≤ 72) (hH : H % 16 ≤ 4) : bc3 (n + 1) (256 * H + B) = 256 * bc3 n H + (B + B / 16) % 16 := by
  unfold bc3
  have e : (256 * H + B) + (256 * H + B) / 16 = 256 * (H + H / 16) + (B + 16 * (H % 16) + B / 16) := by omega
  show ((256 * H + B) + (256 * H + B) / 16 &&& (256 * mk8 15 n + 15)) = _
  rw [e, and_cat _ _ _ _ (by omega) (by decide), Nat.and_two_pow_sub_one_eq_mod _ 4]
  congr 1
  omega
def pb (B : Nat) : Nat := (by2 (by1 B) + by2 (by1 B) / 16) % 16
def cntB (X : Nat) : Nat → Nat
  | 0 => 0
  | n + 1 => cntB X n + (if X.testBit n = true then 1 else 0)
theorem t_key : ∀ B : Fin 256, by1 B.val < 256 ∧ by2 (by1 B.val) ≤ 72 ∧ by2 (by1 B.val) % 16 ≤ 4 ∧ pb B.val = cntB B.val 8 ∧ pb B.val ≤ 8 := by decide +kernel
/-- the bytes' counts, byte by byte -/
def byS (X : Nat) : Nat → Nat
  | 0 => 0
  | n + 1 => 256 * byS (X / 256) n + pb (X % 256)
theorem sss (n : Nat) : ∀ X : Nat, X < 256 ^ n → bc3 n (bc2 n (bc1 n X)) = byS X n ∧ bc2 n (bc1 n X) % 16 ≤ 4 := by
  induction n with
  | zero =>
    intro X h
    have : X = 0 := by omega
    subst this
    exact ⟨rfl, by decide⟩
  | succ n ih =>
    intro X h
    have hX : X = 256 * (X / 256) + X % 256 := by omega
    obtain ⟨k1, k2, k3, _, _⟩ := t_key ⟨X % 256, by omega⟩
    have hd : X / 256 < 256 ^ n := by rw [Nat.pow_succ] at h; omega
    obtain ⟨i1, i2⟩ := ih (X / 256) hd
    rw [hX, bc1_s n _ _ (by omega), bc2_s n _ _ k1, bc3_s n _ _ k2 i2, i1]
    refine ⟨?_, by omega⟩
    show 256 * byS (X / 256) n + pb (X % 256) = 256 * byS ((256 * (X / 256) + X % 256) / 256) n + pb ((256 * (X / 256) + X % 256) % 256)
    rw [← hX]
theorem cntB_add (X : Nat) (a : Nat) : ∀ b : Nat, cntB X (a + b) = cntB X a + cntB (X / 2 ^ a) b
  | 0 => rfl
  | b + 1 => by
    show cntB X (a + b) + (if X.testBit (a + b) = true then 1 else 0) = cntB X a + (cntB (X / 2 ^ a) b + (if (X / 2 ^ a).testBit b = true then 1 else 0))
    rw [cntB_add X a b, Nat.testBit_div_two_pow, Nat.add_comm b a]
    omega
theorem cntB_mod (X : Nat) : ∀ b : Nat, b ≤ 8 → cntB (X % 256) b = cntB X b
  | 0, _ => rfl
  | b + 1, h => by
    show cntB (X % 256) b + _ = cntB X b + _
    rw [cntB_mod X b (by omega), show 256 = 2 ^ 8 from rfl, Nat.testBit_mod_two_pow, decide_eq_true (by omega : b < 8), Bool.true_and]
theorem pb_cnt (X : Nat) : pb (X % 256) = cntB X 8 ∧ pb (X % 256) ≤ 8 := by
  obtain ⟨_, _, _, k4, k5⟩ := t_key ⟨X % 256, by omega⟩
  exact ⟨by rw [k4]; exact cntB_mod X 8 (Nat.le_refl _), k5⟩
/-- the last steps: the bytes added up -/
theorem fold8 {p0 p1 p2 p3 p4 p5 p6 T0 T1 T2 T3 T4 T5 T6 T7 : Nat} (h0 : p0 ≤ 8) (h1 : p1 ≤ 8) (h2 : p2 ≤ 8) (h3 : p3 ≤ 8) (h4 : p4 ≤ 8) (h5 : p5 ≤ 8) (h6 : p6 ≤ 8) (h7 : T7 ≤ 8)
    (e0 : T0 = 256 * T1 + p0) (e1 : T1 = 256 * T2 + p1) (e2 : T2 = 256 * T3 + p2) (e3 : T3 = 256 * T4 + p3) (e4 : T4 = 256 * T5 + p4) (e5 : T5 = 256 * T6 + p5) (e6 : T6 = 256 * T7 + p6) {A B C : Nat}
    (hA : A = T0 + T0 / 256) (hB : B = A + A / 65536) (hC : C = B + B / 4294967296) : C < 2 ^ 63 ∧ A < 2 ^ 63 ∧ B < 2 ^ 63 ∧ C % 128 = p0 + p1 + p2 + p3 + p4 + p5 + p6 + T7 := by
  have a1 : T0 / 256 = T1 := by omega
  have a2 : A / 65536 = T2 + T3 := by
    rw [hA, a1]
    omega
  have a3 : B / 4294967296 = T4 + T5 + T6 + T7 := by
    rw [hB, a2, hA, a1]
    omega
  have b6 : T6 ≤ 3000 := by omega
  have b5 : T5 ≤ 1000000 := by omega
  have b4 : T4 ≤ 300000000 := by omega
  have b3 : T3 ≤ 100000000000 := by omega
  have b2 : T2 ≤ 30000000000000 := by omega
  have b1 : T1 ≤ 10000000000000000 := by omega
  have b0 : T0 ≤ 3000000000000000000 := by omega
  refine ⟨by omega, by omega, by omega, ?_⟩
  rw [hC, a3, hB, a2, hA, a1]
  omega
theorem pop_all {x x1 x2 x3 x4 x5 x6 : Int} (h1 : x1 = x - land (lushr x 1) 6148914691236517205) (h2 : x2 = land x1 3689348814741910323 + land (lushr x1 2) 3689348814741910323) (h3 : x3 = land (x2 + lushr x2 4) 1085102592571150095) (h4 : x4 = x3 + lushr x3 8) (h5 : x5 = x4 + lushr x4 16) (h6 : x6 = x5 + lushr x5 32) : iand x6 127 = ((cntB (UB x) 64 : Nat) : Int) := by
  have hx := UB_lt x
  have k1 : UB 6148914691236517205 = mk8 85 8 := by decide +kernel
  have k2 : UB 3689348814741910323 = mk8 51 8 := by decide +kernel
  have k3 : UB 1085102592571150095 = mk8 15 8 := by decide +kernel
  have e1 : UB x1 = bc1 8 (UB x) := by
    rw [h1, UB_sub, UB_land, k1]
    have e : UB (lushr x 1) = UB x / 2 := UB_lushr x (r := 1) (by decide)
    rw [e]
    have hl : (UB x / 2) &&& mk8 85 8 ≤ UB x / 2 := Nat.and_le_left
    unfold bc1
    omega
  have hb1 : UB x1 < 2 ^ 64 := UB_lt x1
  have e2 : UB x2 = bc2 8 (UB x1) := by
    rw [h2, UB_add, UB_land, UB_land, k2]
    have e : UB (lushr x1 2) = UB x1 / 4 := UB_lushr x1 (r := 2) (by decide)
    rw [e]
    have a : UB x1 &&& mk8 51 8 ≤ mk8 51 8 := Nat.and_le_right
    have b : (UB x1 / 4) &&& mk8 51 8 ≤ mk8 51 8 := Nat.and_le_right
    have c : mk8 51 8 = 3689348814741910323 := by decide +kernel
    unfold bc2
    omega
  have hb2 : UB x2 ≤ 7378697629483820646 := by
    rw [e2]
    have a : UB x1 &&& mk8 51 8 ≤ mk8 51 8 := Nat.and_le_right
    have b : (UB x1 / 4) &&& mk8 51 8 ≤ mk8 51 8 := Nat.and_le_right
    have c : mk8 51 8 = 3689348814741910323 := by decide +kernel
    unfold bc2
    omega
  have e3 : UB x3 = bc3 8 (UB x2) := by
    rw [h3, UB_land, UB_add, k3]
    have e : UB (lushr x2 4) = UB x2 / 16 := UB_lushr x2 (r := 4) (by decide)
    rw [e, Nat.mod_eq_of_lt (by omega)]
    rfl
  have e30 : UB x3 = byS (UB x) 8 := by
    rw [e3, e2, e1]
    exact (sss 8 (UB x) (by omega)).1
  have f4 : UB (lushr x3 8) = UB x3 / 256 := UB_lushr x3 (r := 8) (by decide)
  have f5 : UB (lushr x4 16) = UB x4 / 65536 := UB_lushr x4 (r := 16) (by decide)
  have f6 : UB (lushr x5 32) = UB x5 / 4294967296 := UB_lushr x5 (r := 32) (by decide)
  have g : ∀ j n : Nat, cntB (UB x / 256 ^ j) (8 + n) = pb (UB x / 256 ^ j % 256) + cntB (UB x / 256 ^ (j + 1)) n := fun j n => by
    rw [cntB_add, (pb_cnt _).1, show 2 ^ 8 = 256 from rfl, Nat.div_div_eq_div_mul, ← Nat.pow_succ]
  have w : ∀ j n : Nat, byS (UB x / 256 ^ j) (n + 1) = 256 * byS (UB x / 256 ^ (j + 1)) n + pb (UB x / 256 ^ j % 256) := fun j n => by
    show 256 * byS (UB x / 256 ^ j / 256) n + pb (UB x / 256 ^ j % 256) = _
    rw [Nat.div_div_eq_div_mul, ← Nat.pow_succ]
  have g0 : cntB (UB x / 256 ^ 0) 64 = pb (UB x / 256 ^ 0 % 256) + cntB (UB x / 256 ^ 1) 56 := g 0 56
  have g1 : cntB (UB x / 256 ^ 1) 56 = pb (UB x / 256 ^ 1 % 256) + cntB (UB x / 256 ^ 2) 48 := g 1 48
  have g2 : cntB (UB x / 256 ^ 2) 48 = pb (UB x / 256 ^ 2 % 256) + cntB (UB x / 256 ^ 3) 40 := g 2 40
  have g3 : cntB (UB x / 256 ^ 3) 40 = pb (UB x / 256 ^ 3 % 256) + cntB (UB x / 256 ^ 4) 32 := g 3 32
  have g4 : cntB (UB x / 256 ^ 4) 32 = pb (UB x / 256 ^ 4 % 256) + cntB (UB x / 256 ^ 5) 24 := g 4 24
  have g5 : cntB (UB x / 256 ^ 5) 24 = pb (UB x / 256 ^ 5 % 256) + cntB (UB x / 256 ^ 6) 16 := g 5 16
  have g6 : cntB (UB x / 256 ^ 6) 16 = pb (UB x / 256 ^ 6 % 256) + cntB (UB x / 256 ^ 7) 8 := g 6 8
  have g7 : cntB (UB x / 256 ^ 7) 8 = pb (UB x / 256 ^ 7 % 256) + cntB (UB x / 256 ^ 8) 0 := g 7 0
  have z0 : UB x / 256 ^ 0 = UB x := by rw [Nat.pow_zero, Nat.div_one]
  have w0 : byS (UB x / 256 ^ 0) 8 = 256 * byS (UB x / 256 ^ 1) 7 + pb (UB x / 256 ^ 0 % 256) := w 0 7
  have w1 : byS (UB x / 256 ^ 1) 7 = 256 * byS (UB x / 256 ^ 2) 6 + pb (UB x / 256 ^ 1 % 256) := w 1 6
  have w2 : byS (UB x / 256 ^ 2) 6 = 256 * byS (UB x / 256 ^ 3) 5 + pb (UB x / 256 ^ 2 % 256) := w 2 5
  have w3 : byS (UB x / 256 ^ 3) 5 = 256 * byS (UB x / 256 ^ 4) 4 + pb (UB x / 256 ^ 3 % 256) := w 3 4
  have w4 : byS (UB x / 256 ^ 4) 4 = 256 * byS (UB x / 256 ^ 5) 3 + pb (UB x / 256 ^ 4 % 256) := w 4 3
  have w5 : byS (UB x / 256 ^ 5) 3 = 256 * byS (UB x / 256 ^ 6) 2 + pb (UB x / 256 ^ 5 % 256) := w 5 2
  have w6 : byS (UB x / 256 ^ 6) 2 = 256 * byS (UB x / 256 ^ 7) 1 + pb (UB x / 256 ^ 6 % 256) := w 6 1
  have w7 : byS (UB x / 256 ^ 7) 1 = pb (UB x / 256 ^ 7 % 256) := by
    rw [w 7 0]
    show 256 * 0 + pb (UB x / 256 ^ 7 % 256) = _
    omega
  have q := fun j => (pb_cnt (UB x / 256 ^ j)).2
  have q0 := q 0
  have q1 := q 1
  have q2 := q 2
  have q3 := q 3
  have q4 := q 4
  have q5 := q 5
  have q6 := q 6
  have q7 := q 7
  rw [z0] at w0 g0 q0
  have z8 : cntB (UB x / 256 ^ 8) 0 = 0 := rfl
  have hA0 : UB x3 < 2 ^ 62 := by
    rw [e30]
    have b7 : byS (UB x / 256 ^ 7) 1 ≤ 8 := by rw [w7]; exact q7
    have b6 : byS (UB x / 256 ^ 6) 2 ≤ 3000 := by rw [w6]; omega
    have b5 : byS (UB x / 256 ^ 5) 3 ≤ 1000000 := by rw [w5]; omega
    have b4 : byS (UB x / 256 ^ 4) 4 ≤ 300000000 := by rw [w4]; omega
    have b3 : byS (UB x / 256 ^ 3) 5 ≤ 100000000000 := by rw [w3]; omega
    have b2 : byS (UB x / 256 ^ 2) 6 ≤ 30000000000000 := by rw [w2]; omega
    have b1 : byS (UB x / 256 ^ 1) 7 ≤ 10000000000000000 := by rw [w1]; omega
    rw [w0]
    omega
  obtain ⟨r1, r2, r3, r4⟩ := fold8 (A := UB x3 + UB x3 / 256) (B := (UB x3 + UB x3 / 256) + (UB x3 + UB x3 / 256) / 65536) q0 q1 q2 q3 q4 q5 q6 (by rw [w7]; exact q7) w0 w1 w2 w3 w4 w5 w6 (by rw [e30]) rfl rfl
  have e4 : UB x4 = UB x3 + UB x3 / 256 := by rw [h4, UB_add, f4, Nat.mod_eq_of_lt (by omega)]
  have e5 : UB x5 = UB x4 + UB x4 / 65536 := by rw [h5, UB_add, f5, e4, Nat.mod_eq_of_lt (by omega)]
  have e6 : UB x6 = UB x5 + UB x5 / 4294967296 := by rw [h6, UB_add, f6, e5, e4, Nat.mod_eq_of_lt (by omega)]
  rw [iand_low, e6, e5, e4, r4, w7]
  clear r1 r2 r3 r4 e4 e5 e6 f4 f5 f6 e30 e3 e2 e1 hA0 h1 h2 h3 h4 h5 h6 w g
  omega
theorem dJ13_bitCount_95d88_0 : decode cJ13_bitCount_95d88 0 = .ok (.lload_n 0, 1) := by decide +kernel
theorem dJ13_bitCount_95d88_1 : decode cJ13_bitCount_95d88 1 = .ok (.lload_n 0, 1) := by decide +kernel
theorem dJ13_bitCount_95d88_2 : decode cJ13_bitCount_95d88 2 = .ok (.iconst 1, 1) := by decide +kernel
theorem dJ13_bitCount_95d88_3 : decode cJ13_bitCount_95d88 3 = .ok (.lushr, 1) := by decide +kernel
theorem dJ13_bitCount_95d88_4 : decode cJ13_bitCount_95d88 4 = .ok (.ldc2_w 314, 3) := by decide +kernel
theorem dJ13_bitCount_95d88_7 : decode cJ13_bitCount_95d88 7 = .ok (.land, 1) := by decide +kernel
theorem dJ13_bitCount_95d88_8 : decode cJ13_bitCount_95d88 8 = .ok (.lsub, 1) := by decide +kernel
theorem dJ13_bitCount_95d88_9 : decode cJ13_bitCount_95d88 9 = .ok (.lstore_n 0, 1) := by decide +kernel
theorem dJ13_bitCount_95d88_10 : decode cJ13_bitCount_95d88 10 = .ok (.lload_n 0, 1) := by decide +kernel
theorem dJ13_bitCount_95d88_11 : decode cJ13_bitCount_95d88 11 = .ok (.ldc2_w 316, 3) := by decide +kernel
theorem dJ13_bitCount_95d88_14 : decode cJ13_bitCount_95d88 14 = .ok (.land, 1) := by decide +kernel
theorem dJ13_bitCount_95d88_15 : decode cJ13_bitCount_95d88 15 = .ok (.lload_n 0, 1) := by decide +kernel
theorem dJ13_bitCount_95d88_16 : decode cJ13_bitCount_95d88 16 = .ok (.iconst 2, 1) := by decide +kernel
theorem dJ13_bitCount_95d88_17 : decode cJ13_bitCount_95d88 17 = .ok (.lushr, 1) := by decide +kernel
theorem dJ13_bitCount_95d88_18 : decode cJ13_bitCount_95d88 18 = .ok (.ldc2_w 316, 3) := by decide +kernel
theorem dJ13_bitCount_95d88_21 : decode cJ13_bitCount_95d88 21 = .ok (.land, 1) := by decide +kernel
theorem dJ13_bitCount_95d88_22 : decode cJ13_bitCount_95d88 22 = .ok (.ladd, 1) := by decide +kernel
theorem dJ13_bitCount_95d88_23 : decode cJ13_bitCount_95d88 23 = .ok (.lstore_n 0, 1) := by decide +kernel
theorem dJ13_bitCount_95d88_24 : decode cJ13_bitCount_95d88 24 = .ok (.lload_n 0, 1) := by decide +kernel
theorem dJ13_bitCount_95d88_25 : decode cJ13_bitCount_95d88 25 = .ok (.lload_n 0, 1) := by decide +kernel
theorem dJ13_bitCount_95d88_26 : decode cJ13_bitCount_95d88 26 = .ok (.iconst 4, 1) := by decide +kernel
theorem dJ13_bitCount_95d88_27 : decode cJ13_bitCount_95d88 27 = .ok (.lushr, 1) := by decide +kernel
theorem dJ13_bitCount_95d88_28 : decode cJ13_bitCount_95d88 28 = .ok (.ladd, 1) := by decide +kernel
theorem dJ13_bitCount_95d88_29 : decode cJ13_bitCount_95d88 29 = .ok (.ldc2_w 318, 3) := by decide +kernel
theorem dJ13_bitCount_95d88_32 : decode cJ13_bitCount_95d88 32 = .ok (.land, 1) := by decide +kernel
theorem dJ13_bitCount_95d88_33 : decode cJ13_bitCount_95d88 33 = .ok (.lstore_n 0, 1) := by decide +kernel
theorem dJ13_bitCount_95d88_34 : decode cJ13_bitCount_95d88 34 = .ok (.lload_n 0, 1) := by decide +kernel
theorem dJ13_bitCount_95d88_35 : decode cJ13_bitCount_95d88 35 = .ok (.lload_n 0, 1) := by decide +kernel
theorem dJ13_bitCount_95d88_36 : decode cJ13_bitCount_95d88 36 = .ok (.bipush 8, 2) := by decide +kernel
theorem dJ13_bitCount_95d88_38 : decode cJ13_bitCount_95d88 38 = .ok (.lushr, 1) := by decide +kernel
theorem dJ13_bitCount_95d88_39 : decode cJ13_bitCount_95d88 39 = .ok (.ladd, 1) := by decide +kernel
theorem dJ13_bitCount_95d88_40 : decode cJ13_bitCount_95d88 40 = .ok (.lstore_n 0, 1) := by decide +kernel
theorem dJ13_bitCount_95d88_41 : decode cJ13_bitCount_95d88 41 = .ok (.lload_n 0, 1) := by decide +kernel
theorem dJ13_bitCount_95d88_42 : decode cJ13_bitCount_95d88 42 = .ok (.lload_n 0, 1) := by decide +kernel
theorem dJ13_bitCount_95d88_43 : decode cJ13_bitCount_95d88 43 = .ok (.bipush 16, 2) := by decide +kernel
theorem dJ13_bitCount_95d88_45 : decode cJ13_bitCount_95d88 45 = .ok (.lushr, 1) := by decide +kernel
theorem dJ13_bitCount_95d88_46 : decode cJ13_bitCount_95d88 46 = .ok (.ladd, 1) := by decide +kernel
theorem dJ13_bitCount_95d88_47 : decode cJ13_bitCount_95d88 47 = .ok (.lstore_n 0, 1) := by decide +kernel
theorem dJ13_bitCount_95d88_48 : decode cJ13_bitCount_95d88 48 = .ok (.lload_n 0, 1) := by decide +kernel
theorem dJ13_bitCount_95d88_49 : decode cJ13_bitCount_95d88 49 = .ok (.lload_n 0, 1) := by decide +kernel
theorem dJ13_bitCount_95d88_50 : decode cJ13_bitCount_95d88 50 = .ok (.bipush 32, 2) := by decide +kernel
theorem dJ13_bitCount_95d88_52 : decode cJ13_bitCount_95d88 52 = .ok (.lushr, 1) := by decide +kernel
theorem dJ13_bitCount_95d88_53 : decode cJ13_bitCount_95d88 53 = .ok (.ladd, 1) := by decide +kernel
theorem dJ13_bitCount_95d88_54 : decode cJ13_bitCount_95d88 54 = .ok (.lstore_n 0, 1) := by decide +kernel
theorem dJ13_bitCount_95d88_55 : decode cJ13_bitCount_95d88 55 = .ok (.lload_n 0, 1) := by decide +kernel
theorem dJ13_bitCount_95d88_56 : decode cJ13_bitCount_95d88 56 = .ok (.l2i, 1) := by decide +kernel
theorem dJ13_bitCount_95d88_57 : decode cJ13_bitCount_95d88 57 = .ok (.bipush 127, 2) := by decide +kernel
theorem dJ13_bitCount_95d88_59 : decode cJ13_bitCount_95d88 59 = .ok (.iand, 1) := by decide +kernel
theorem dJ13_bitCount_95d88_60 : decode cJ13_bitCount_95d88 60 = .ok (.ireturn, 1) := by decide +kernel
set_option maxHeartbeats 4000000 in
set_option maxRecDepth 100000 in
theorem m_bitCount (l : Launch) (x : Int) (mem : Mem) : Ret shp l yJ13_bitCount_95d88 cJ13_bitCount_95d88 2 (some .int) 0 [pL x] mem (fun rv mv => rv = some (pI ((cntB (UB x) 64 : Nat) : Int)) ∧ mem = mv) := by
  refine ret_of (by decide +kernel) (Nat.le_of_ble_eq_true rfl) (fun X hX F G => ?_)
  show Ok shp X 2 0 [(0, pL x)] [] mem
  refine ok_lload_n F dJ13_bitCount_95d88_0 0 rfl ?_
  refine ok_lload_n F dJ13_bitCount_95d88_1 0 rfl ?_
  refine ok_iconst F dJ13_bitCount_95d88_2 ?_
  refine ok_lushr F dJ13_bitCount_95d88_3 ?_
  refine ok_ldc2 (n := 6148914691236517205) F dJ13_bitCount_95d88_4 kJ_J13_314 rfl ?_
  refine ok_land F dJ13_bitCount_95d88_7 ?_
  refine ok_lsub F dJ13_bitCount_95d88_8 ?_
  refine ok_lstore_n (lv' := [(0, pL (x - (land (lushr x 1) 6148914691236517205)))]) F dJ13_bitCount_95d88_9 (by decide) rfl ?_
  refine ok_lload_n F dJ13_bitCount_95d88_10 0 rfl ?_
  refine ok_ldc2 (n := 3689348814741910323) F dJ13_bitCount_95d88_11 kJ_J13_316 rfl ?_
  refine ok_land F dJ13_bitCount_95d88_14 ?_
  refine ok_lload_n F dJ13_bitCount_95d88_15 0 rfl ?_
  refine ok_iconst F dJ13_bitCount_95d88_16 ?_
  refine ok_lushr F dJ13_bitCount_95d88_17 ?_
  refine ok_ldc2 (n := 3689348814741910323) F dJ13_bitCount_95d88_18 kJ_J13_316 rfl ?_
  refine ok_land F dJ13_bitCount_95d88_21 ?_
  refine ok_ladd F dJ13_bitCount_95d88_22 ?_
  refine ok_lstore_n (lv' := [(0, pL ((land (x - (land (lushr x 1) 6148914691236517205)) 3689348814741910323) + (land (lushr (x - (land (lushr x 1) 6148914691236517205)) 2) 3689348814741910323)))]) F dJ13_bitCount_95d88_23 (by decide) rfl ?_
  refine ok_lload_n F dJ13_bitCount_95d88_24 0 rfl ?_
  refine ok_lload_n F dJ13_bitCount_95d88_25 0 rfl ?_
  refine ok_iconst F dJ13_bitCount_95d88_26 ?_
  refine ok_lushr F dJ13_bitCount_95d88_27 ?_
  refine ok_ladd F dJ13_bitCount_95d88_28 ?_
  refine ok_ldc2 (n := 1085102592571150095) F dJ13_bitCount_95d88_29 kJ_J13_318 rfl ?_
  refine ok_land F dJ13_bitCount_95d88_32 ?_
  refine ok_lstore_n (lv' := [(0, pL (land (((land (x - (land (lushr x 1) 6148914691236517205)) 3689348814741910323) + (land (lushr (x - (land (lushr x 1) 6148914691236517205)) 2) 3689348814741910323)) + (lushr ((land (x - (land (lushr x 1) 6148914691236517205)) 3689348814741910323) + (land (lushr (x - (land (lushr x 1) 6148914691236517205)) 2) 3689348814741910323)) 4)) 1085102592571150095))]) F dJ13_bitCount_95d88_33 (by decide) rfl ?_
  refine ok_lload_n F dJ13_bitCount_95d88_34 0 rfl ?_
  refine ok_lload_n F dJ13_bitCount_95d88_35 0 rfl ?_
  refine ok_bipush F dJ13_bitCount_95d88_36 rfl ?_
  refine ok_lushr F dJ13_bitCount_95d88_38 ?_
  refine ok_ladd F dJ13_bitCount_95d88_39 ?_
  refine ok_lstore_n (lv' := [(0, pL ((land (((land (x - (land (lushr x 1) 6148914691236517205)) 3689348814741910323) + (land (lushr (x - (land (lushr x 1) 6148914691236517205)) 2) 3689348814741910323)) + (lushr ((land (x - (land (lushr x 1) 6148914691236517205)) 3689348814741910323) + (land (lushr (x - (land (lushr x 1) 6148914691236517205)) 2) 3689348814741910323)) 4)) 1085102592571150095) + (lushr (land (((land (x - (land (lushr x 1) 6148914691236517205)) 3689348814741910323) + (land (lushr (x - (land (lushr x 1) 6148914691236517205)) 2) 3689348814741910323)) + (lushr ((land (x - (land (lushr x 1) 6148914691236517205)) 3689348814741910323) + (land (lushr (x - (land (lushr x 1) 6148914691236517205)) 2) 3689348814741910323)) 4)) 1085102592571150095) 8)))]) F dJ13_bitCount_95d88_40 (by decide) rfl ?_
  refine ok_lload_n F dJ13_bitCount_95d88_41 0 rfl ?_
  refine ok_lload_n F dJ13_bitCount_95d88_42 0 rfl ?_
  refine ok_bipush F dJ13_bitCount_95d88_43 rfl ?_
  refine ok_lushr F dJ13_bitCount_95d88_45 ?_
  refine ok_ladd F dJ13_bitCount_95d88_46 ?_
  refine ok_lstore_n (lv' := [(0, pL (((land (((land (x - (land (lushr x 1) 6148914691236517205)) 3689348814741910323) + (land (lushr (x - (land (lushr x 1) 6148914691236517205)) 2) 3689348814741910323)) + (lushr ((land (x - (land (lushr x 1) 6148914691236517205)) 3689348814741910323) + (land (lushr (x - (land (lushr x 1) 6148914691236517205)) 2) 3689348814741910323)) 4)) 1085102592571150095) + (lushr (land (((land (x - (land (lushr x 1) 6148914691236517205)) 3689348814741910323) + (land (lushr (x - (land (lushr x 1) 6148914691236517205)) 2) 3689348814741910323)) + (lushr ((land (x - (land (lushr x 1) 6148914691236517205)) 3689348814741910323) + (land (lushr (x - (land (lushr x 1) 6148914691236517205)) 2) 3689348814741910323)) 4)) 1085102592571150095) 8)) + (lushr ((land (((land (x - (land (lushr x 1) 6148914691236517205)) 3689348814741910323) + (land (lushr (x - (land (lushr x 1) 6148914691236517205)) 2) 3689348814741910323)) + (lushr ((land (x - (land (lushr x 1) 6148914691236517205)) 3689348814741910323) + (land (lushr (x - (land (lushr x 1) 6148914691236517205)) 2) 3689348814741910323)) 4)) 1085102592571150095) + (lushr (land (((land (x - (land (lushr x 1) 6148914691236517205)) 3689348814741910323) + (land (lushr (x - (land (lushr x 1) 6148914691236517205)) 2) 3689348814741910323)) + (lushr ((land (x - (land (lushr x 1) 6148914691236517205)) 3689348814741910323) + (land (lushr (x - (land (lushr x 1) 6148914691236517205)) 2) 3689348814741910323)) 4)) 1085102592571150095) 8)) 16)))]) F dJ13_bitCount_95d88_47 (by decide) rfl ?_
  refine ok_lload_n F dJ13_bitCount_95d88_48 0 rfl ?_
  refine ok_lload_n F dJ13_bitCount_95d88_49 0 rfl ?_
  refine ok_bipush F dJ13_bitCount_95d88_50 rfl ?_
  refine ok_lushr F dJ13_bitCount_95d88_52 ?_
  refine ok_ladd F dJ13_bitCount_95d88_53 ?_
  refine ok_lstore_n (lv' := [(0, pL ((((land (((land (x - (land (lushr x 1) 6148914691236517205)) 3689348814741910323) + (land (lushr (x - (land (lushr x 1) 6148914691236517205)) 2) 3689348814741910323)) + (lushr ((land (x - (land (lushr x 1) 6148914691236517205)) 3689348814741910323) + (land (lushr (x - (land (lushr x 1) 6148914691236517205)) 2) 3689348814741910323)) 4)) 1085102592571150095) + (lushr (land (((land (x - (land (lushr x 1) 6148914691236517205)) 3689348814741910323) + (land (lushr (x - (land (lushr x 1) 6148914691236517205)) 2) 3689348814741910323)) + (lushr ((land (x - (land (lushr x 1) 6148914691236517205)) 3689348814741910323) + (land (lushr (x - (land (lushr x 1) 6148914691236517205)) 2) 3689348814741910323)) 4)) 1085102592571150095) 8)) + (lushr ((land (((land (x - (land (lushr x 1) 6148914691236517205)) 3689348814741910323) + (land (lushr (x - (land (lushr x 1) 6148914691236517205)) 2) 3689348814741910323)) + (lushr ((land (x - (land (lushr x 1) 6148914691236517205)) 3689348814741910323) + (land (lushr (x - (land (lushr x 1) 6148914691236517205)) 2) 3689348814741910323)) 4)) 1085102592571150095) + (lushr (land (((land (x - (land (lushr x 1) 6148914691236517205)) 3689348814741910323) + (land (lushr (x - (land (lushr x 1) 6148914691236517205)) 2) 3689348814741910323)) + (lushr ((land (x - (land (lushr x 1) 6148914691236517205)) 3689348814741910323) + (land (lushr (x - (land (lushr x 1) 6148914691236517205)) 2) 3689348814741910323)) 4)) 1085102592571150095) 8)) 16)) + (lushr (((land (((land (x - (land (lushr x 1) 6148914691236517205)) 3689348814741910323) + (land (lushr (x - (land (lushr x 1) 6148914691236517205)) 2) 3689348814741910323)) + (lushr ((land (x - (land (lushr x 1) 6148914691236517205)) 3689348814741910323) + (land (lushr (x - (land (lushr x 1) 6148914691236517205)) 2) 3689348814741910323)) 4)) 1085102592571150095) + (lushr (land (((land (x - (land (lushr x 1) 6148914691236517205)) 3689348814741910323) + (land (lushr (x - (land (lushr x 1) 6148914691236517205)) 2) 3689348814741910323)) + (lushr ((land (x - (land (lushr x 1) 6148914691236517205)) 3689348814741910323) + (land (lushr (x - (land (lushr x 1) 6148914691236517205)) 2) 3689348814741910323)) 4)) 1085102592571150095) 8)) + (lushr ((land (((land (x - (land (lushr x 1) 6148914691236517205)) 3689348814741910323) + (land (lushr (x - (land (lushr x 1) 6148914691236517205)) 2) 3689348814741910323)) + (lushr ((land (x - (land (lushr x 1) 6148914691236517205)) 3689348814741910323) + (land (lushr (x - (land (lushr x 1) 6148914691236517205)) 2) 3689348814741910323)) 4)) 1085102592571150095) + (lushr (land (((land (x - (land (lushr x 1) 6148914691236517205)) 3689348814741910323) + (land (lushr (x - (land (lushr x 1) 6148914691236517205)) 2) 3689348814741910323)) + (lushr ((land (x - (land (lushr x 1) 6148914691236517205)) 3689348814741910323) + (land (lushr (x - (land (lushr x 1) 6148914691236517205)) 2) 3689348814741910323)) 4)) 1085102592571150095) 8)) 16)) 32)))]) F dJ13_bitCount_95d88_54 (by decide) rfl ?_
  refine ok_lload_n F dJ13_bitCount_95d88_55 0 rfl ?_
  refine ok_l2i F dJ13_bitCount_95d88_56 ?_
  refine ok_bipush F dJ13_bitCount_95d88_57 rfl ?_
  refine ok_iand F dJ13_bitCount_95d88_59 ?_
  refine ok_iret F G dJ13_bitCount_95d88_60 ?_
  exact ⟨by rw [pop_all (x := x) rfl rfl rfl rfl rfl rfl], rfl⟩
