/-! the tapes, on both sides -/
theorem b255 : ∀ i : Fin 32, (255#32).getLsbD i.val = decide (i.val < 8) := by decide +kernel
theorem bv_key (X : BitVec 32) (s : Nat) (hs : s ≤ 24) : ((X.sshiftRight s).signExtend 8).signExtend 32 &&& 255#32 = (X >>> s) &&& 255#32 := by
  apply BitVec.eq_of_getLsbD_eq
  intro i hi
  rw [BitVec.getLsbD_and, BitVec.getLsbD_and, b255 ⟨i, hi⟩]
  by_cases h : i < 8
  · rw [BitVec.getLsbD_signExtend, BitVec.getLsbD_ushiftRight, BitVec.getLsbD_signExtend, BitVec.getLsbD_sshiftRight]
    simp only [show i < 8 from h, hi, decide_true, Bool.true_and, Bool.and_true, if_true]
    rw [if_pos (by omega)]
    simp [show s + i < 32 by omega, show ¬ (32 ≤ i) by omega]
  · rw [decide_eq_false h, Bool.and_false, Bool.and_false]
theorem tape_byte (v : Int) (s : Nat) (hs : s = 0 ∨ s = 8 ∨ s = 16 ∨ s = 24) : iand (i2b (ishr v (s : Int))) 255 = iand (iushr v (s : Int)) 255 := by
  have e1 : (Int32.ofInt v >>> (Int32.ofInt (s : Int) &&& 31)).toBitVec = (Int32.ofInt v).toBitVec.sshiftRight s := by
    rw [Int32.toBitVec_shiftRight, BitVec.sshiftRight']
    have : ((Int32.ofInt (s : Int) &&& 31).toBitVec.smod 32).toNat = s := by rcases hs with rfl | rfl | rfl | rfl <;> decide +kernel
    rw [this]
  have e2 : ((Int32.ofInt v).toUInt32 >>> ((Int32.ofInt (s : Int)).toUInt32 &&& Int32.toUInt32 31)).toBitVec = (Int32.ofInt v).toBitVec >>> s := by
    rw [UInt32.toBitVec_shiftRight, BitVec.ushiftRight_eq']
    have : (((Int32.ofInt (s : Int)).toUInt32 &&& Int32.toUInt32 31).toBitVec % 32).toNat = s := by rcases hs with rfl | rfl | rfl | rfl <;> decide +kernel
    rw [this]
    rfl
  have e4 : (Int32.ofInt 255).toBitVec = 255#32 := by decide +kernel
  have e3 : ((Int32.ofInt v).toUInt32 >>> ((Int32.ofInt (s : Int)).toUInt32 &&& Int32.toUInt32 31)).toInt32.toBitVec = (Int32.ofInt v).toBitVec >>> s := e2
  generalize hA : Int32.ofInt v >>> (Int32.ofInt (s : Int) &&& 31) = A at e1
  generalize hB : ((Int32.ofInt v).toUInt32 >>> ((Int32.ofInt (s : Int)).toUInt32 &&& Int32.toUInt32 31)).toInt32 = B at e3
  have hL : iand (i2b (ishr v (s : Int))) 255 = (A.toInt8.toInt32 &&& Int32.ofInt 255).toInt := by
    unfold iand i2b ishr
    rw [Int32.ofInt_toInt, Int32.ofInt_toInt, hA]
  have hR : iand (iushr v (s : Int)) 255 = (B &&& Int32.ofInt 255).toInt := by
    unfold iand iushr
    rw [Int32.ofInt_toInt, hB]
  rw [hL, hR]
  have hE : (A.toInt8.toInt32 &&& Int32.ofInt 255).toBitVec = (B &&& Int32.ofInt 255).toBitVec := by
    rw [Int32.toBitVec_and, Int32.toBitVec_and, Int8.toBitVec_toInt32, Int32.toBitVec_toInt8, e1, e3, e4]
    exact bv_key _ s (by omega)
  exact congrArg (fun b : BitVec 32 => b.toInt) hE
theorem i2b_bd (x : Int) : -128 ≤ i2b x ∧ i2b x ≤ 127 := by
  unfold i2b
  have h1 := (Int32.ofInt x).toInt8.le_toInt
  have h2 := (Int32.ofInt x).toInt8.toInt_lt
  rw [Int8.toInt_toInt32]
  omega
/-- the tapes beside each other: the class's in one memory, the reference's in another -/
def TC (mc mr : Mem) : Prop := (0 ≤ mr 0 7 ∧ mr 0 7 ≤ 400) ∧ mc 20 3 = mr 0 7 ∧ (∀ p : Nat, p < 400 → mc 176 p = iand (mr 6 p) 255) ∧ ∀ k : Nat, -128 ≤ mr 6 k ∧ mr 6 k ≤ 127
theorem TC.congr {mc mr nc nr : Mem} (h : TC mc mr) (e7 : nr 0 7 = mr 0 7) (e3 : nc 20 3 = mc 20 3) (e6 : nr 6 = mr 6) (e : nc 176 = mc 176) : TC nc nr := by
  unfold TC
  rw [e7, e3, e6, e]
  exact h
theorem TC.put {mc mr : Mem} {v : Int} (h : TC mc mr) (hT : mr 0 7 ≤ 396) : TC (fdN mc v 4) (putsN mr v 4) ∧ putsN mr v 4 0 7 = mr 0 7 + 4 := by
  obtain ⟨t1, t2, t3, t4⟩ := h
  have eT : putsN mr v 4 0 7 = mr 0 7 + 4 := putsN_T mr v 4
  refine ⟨⟨by omega, by rw [eT, fdN_T, t2]; rfl, fun p hp => ?_, fun k => ?_⟩, eT⟩
  · unfold fdN putsN
    rw [t2]
    by_cases q : (mr 0 7).toNat ≤ p ∧ p < (mr 0 7).toNat + 4
    · rw [if_pos ⟨rfl, q⟩, if_pos ⟨rfl, q⟩]
      have hs : (24 - 8 * ((p - (mr 0 7).toNat : Nat) : Int)) = ((24 - 8 * (p - (mr 0 7).toNat) : Nat) : Int) := by omega
      rw [hs]
      exact (tape_byte v _ (by omega)).symm
    · rw [if_neg (fun w => q w.2), if_neg (by omega), if_neg (fun w => q w.2), if_neg (by omega)]
      exact t3 p hp
  · unfold putsN
    by_cases q : (mr 0 7).toNat ≤ k ∧ k < (mr 0 7).toNat + 4
    · rw [if_pos ⟨rfl, q⟩]; exact i2b_bd _
    · rw [if_neg (fun w => q w.2), if_neg (by omega)]; exact t4 k
theorem TC.feed {mc mr : Mem} {a b c d e : Int} (h : TC mc mr) (hT : mr 0 7 ≤ 380) : TC (feedC mc a b c d e) (feedN mr a b c d e) := by
  obtain ⟨h1, q1⟩ := h.put (v := a) (by omega)
  obtain ⟨h2, q2⟩ := h1.put (v := b) (by omega)
  obtain ⟨h3, q3⟩ := h2.put (v := c) (by omega)
  obtain ⟨h4, q4⟩ := h3.put (v := d) (by omega)
  exact (h4.put (v := e) (by omega)).1
theorem fdN_ne {m : Mem} {v : Int} {n c : Nat} (h : c ≠ 20) (h2 : c ≠ 176) : fdN m v n c = m c := by
  funext b
  unfold fdN
  rw [if_neg (by omega), if_neg (by omega)]
theorem fdN_20 {m : Mem} {v : Int} {n j : Nat} (h : j ≠ 3) : fdN m v n 20 j = m 20 j := by
  unfold fdN
  rw [if_neg (by omega), if_neg (by omega)]
theorem putsN_ne {m : Mem} {v : Int} {n c : Nat} (h : c ≠ 0) (h2 : c ≠ 6) : putsN m v n c = m c := by
  funext b
  unfold putsN
  rw [if_neg (by omega), if_neg (by omega)]
theorem putsN_0j {m : Mem} {v : Int} {n j : Nat} (h : j ≠ 7) : putsN m v n 0 j = m 0 j := by
  unfold putsN
  rw [if_neg (by omega), if_neg (by omega)]
theorem feedC_ne {m : Mem} {a b c d e : Int} {k : Nat} (h : k ≠ 20) (h2 : k ≠ 176) : feedC m a b c d e k = m k := by
  unfold feedC
  rw [fdN_ne h h2, fdN_ne h h2, fdN_ne h h2, fdN_ne h h2, fdN_ne h h2]
theorem feedC_20 {m : Mem} {a b c d e : Int} {j : Nat} (h : j ≠ 3) : feedC m a b c d e 20 j = m 20 j := by
  unfold feedC
  rw [fdN_20 h, fdN_20 h, fdN_20 h, fdN_20 h, fdN_20 h]
theorem feedN_ne {m : Mem} {a b c d e : Int} {k : Nat} (h : k ≠ 0) (h2 : k ≠ 6) : feedN m a b c d e k = m k := by
  unfold feedN
  rw [putsN_ne h h2, putsN_ne h h2, putsN_ne h h2, putsN_ne h h2, putsN_ne h h2]
theorem feedN_0 {m : Mem} {a b c d e : Int} {j : Nat} (h : j ≠ 7) : feedN m a b c d e 0 j = m 0 j := by
  unfold feedN
  rw [putsN_0j h, putsN_0j h, putsN_0j h, putsN_0j h, putsN_0j h]
