/-! bits of ints and longs -/
def tb (z : Int) (i : Nat) : Bool := (Int32.ofInt z).toBitVec.getLsbD i
def lb (z : Int) (i : Nat) : Bool := (Int64.ofInt z).toBitVec.getLsbD i
theorem tb_and (a b : Int) (i : Nat) : tb (z_and a b) i = (tb a i && tb b i) := by simp [tb, z_and, z_oI]
theorem tb_or (a b : Int) (i : Nat) : tb (z_or a b) i = (tb a i || tb b i) := by simp [tb, z_or, z_oI]
theorem tb_xor (a b : Int) (i : Nat) : tb (z_xor a b) i = (tb a i ^^ tb b i) := by simp [tb, z_xor, z_oI]
theorem lb_and (a b : Int) (i : Nat) : lb (y_and a b) i = (lb a i && lb b i) := by simp [lb, y_and, z_oL]
theorem lb_or (a b : Int) (i : Nat) : lb (y_or a b) i = (lb a i || lb b i) := by simp [lb, y_or, z_oL]
theorem lb_xor (a b : Int) (i : Nat) : lb (y_xor a b) i = (lb a i ^^ lb b i) := by simp [lb, y_xor, z_oL]
theorem tb_ge (a : Int) {i : Nat} (h : 32 ≤ i) : tb a i = false := by
  unfold tb
  exact BitVec.getLsbD_of_ge _ _ h
theorem lb_ge (a : Int) {i : Nat} (h : 64 ≤ i) : lb a i = false := by
  unfold lb
  exact BitVec.getLsbD_of_ge _ _ h
theorem tb_nat {n i : Nat} (hi : i < 32) : tb (n : Int) i = n.testBit i := by
  unfold tb
  rw [show Int32.ofInt (n : Int) = Int32.ofNat n from by simp [Int32.ofInt_eq_ofNat]]
  show (BitVec.ofNat 32 n).getLsbD i = _
  rw [BitVec.getLsbD_ofNat]
  simp [hi]
theorem lb_nat {n i : Nat} (hi : i < 64) : lb (n : Int) i = n.testBit i := by
  unfold lb
  rw [show Int64.ofInt (n : Int) = Int64.ofNat n from by simp [Int64.ofInt_eq_ofNat]]
  show (BitVec.ofNat 64 n).getLsbD i = _
  rw [BitVec.getLsbD_ofNat]
  simp [hi]
theorem tb_m1 (i : Nat) : tb (-1) i = decide (i < 32) := by
  unfold tb
  rw [show (Int32.ofInt (-1)).toBitVec = BitVec.allOnes 32 from by decide +kernel]
  exact BitVec.getLsbD_allOnes
theorem lb_m1 (i : Nat) : lb (-1) i = decide (i < 64) := by
  unfold lb
  rw [show (Int64.ofInt (-1)).toBitVec = BitVec.allOnes 64 from by decide +kernel]
  exact BitVec.getLsbD_allOnes
theorem tb_0 (i : Nat) : tb 0 i = false := by
  unfold tb
  rw [show (Int32.ofInt 0).toBitVec = 0#32 from by decide +kernel]
  simp
theorem lb_0 (i : Nat) : lb 0 i = false := by
  unfold lb
  rw [show (Int64.ofInt 0).toBitVec = 0#64 from by decide +kernel]
  simp
theorem tb_1 (i : Nat) : tb 1 i = decide (i = 0) := by
  unfold tb
  rw [show (Int32.ofInt 1).toBitVec = 1#32 from by decide +kernel]
  simp
theorem lb_1 (i : Nat) : lb 1 i = decide (i = 0) := by
  unfold lb
  rw [show (Int64.ofInt 1).toBitVec = 1#64 from by decide +kernel]
  simp
theorem sh32 : ∀ k : Nat, k < 32 → ((Int32.ofInt (k : Int) &&& 31).toBitVec.smod 32).toNat = k := by decide +kernel
theorem sh64 : ∀ k : Nat, k < 64 → (((Int32.ofInt (k : Int)).toInt64 &&& 63).toBitVec.smod 64).toNat = k := by decide +kernel
theorem ush64 : ∀ k : Nat, k < 64 → (((Int32.ofInt (k : Int)).toInt64.toUInt64 &&& Int64.toUInt64 63).toBitVec % 64).toNat = k := by decide +kernel
theorem ush32 : ∀ k : Nat, k < 32 → (((Int32.ofInt (k : Int)).toUInt32 &&& Int32.toUInt32 31).toBitVec % 32).toNat = k := by decide +kernel
theorem tb_shl (a : Int) {k : Nat} (hk : k < 32) (i : Nat) : tb (z_shl a (k : Int)) i = (decide (i < 32) && (decide (k ≤ i) && tb a (i - k))) := by
  unfold tb z_shl
  rw [z_oI, Int32.toBitVec_shiftLeft, BitVec.shiftLeft_eq', sh32 k hk, BitVec.getLsbD_shiftLeft]
  by_cases h : i < k
  · simp [h, Nat.not_le.mpr h]
  · simp [h, Nat.le_of_not_lt h]
theorem lb_shl (a : Int) {k : Nat} (hk : k < 64) (i : Nat) : lb (y_shl a (k : Int)) i = (decide (i < 64) && (decide (k ≤ i) && lb a (i - k))) := by
  unfold lb y_shl
  rw [z_oL, Int64.toBitVec_shiftLeft, BitVec.shiftLeft_eq', sh64 k hk, BitVec.getLsbD_shiftLeft]
  by_cases h : i < k
  · simp [h, Nat.not_le.mpr h]
  · simp [h, Nat.le_of_not_lt h]
theorem lb_ushr (a : Int) {k : Nat} (hk : k < 64) (i : Nat) : lb (y_ushr a (k : Int)) i = lb a (k + i) := by
  unfold lb y_ushr
  rw [z_oL]
  show ((Int64.ofInt a).toUInt64 >>> _).toBitVec.getLsbD i = _
  rw [UInt64.toBitVec_shiftRight, BitVec.ushiftRight_eq', ush64 k hk, BitVec.getLsbD_ushiftRight]
  rfl
theorem tb_ushr (a : Int) {k : Nat} (hk : k < 32) (i : Nat) : tb (z_ushr a (k : Int)) i = tb a (k + i) := by
  unfold tb z_ushr
  rw [z_oI]
  show ((Int32.ofInt a).toUInt32 >>> _).toBitVec.getLsbD i = _
  rw [UInt32.toBitVec_shiftRight, BitVec.ushiftRight_eq', ush32 k hk, BitVec.getLsbD_ushiftRight]
  rfl
theorem tb_shr (a : Int) {k : Nat} (hk : k < 32) {i : Nat} (hi : k + i < 32) : tb (z_shr a (k : Int)) i = tb a (k + i) := by
  unfold tb z_shr
  rw [z_oI, Int32.toBitVec_shiftRight, BitVec.sshiftRight_eq', sh32 k hk, BitVec.getLsbD_sshiftRight]
  simp [hi]
  omega
theorem tb_ext {a b : Int} (ha : InR a) (hb : InR b) (h : ∀ i, i < 32 → tb a i = tb b i) : a = b := by
  have : Int32.ofInt a = Int32.ofInt b := by
    apply Int32.toBitVec_inj.mp
    apply BitVec.eq_of_getLsbD_eq
    intro i hi
    exact h i hi
  rw [← z_tI ha, ← z_tI hb, this]
theorem lb_ext {a b : Int} (ha : InL a) (hb : InL b) (h : ∀ i, i < 64 → lb a i = lb b i) : a = b := by
  have : Int64.ofInt a = Int64.ofInt b := by
    apply Int64.toBitVec_inj.mp
    apply BitVec.eq_of_getLsbD_eq
    intro i hi
    exact h i hi
  rw [← z_tL ha, ← z_tL hb, this]
theorem InL_of (x : Int64) : InL x.toInt := by
  have h1 := Int64.le_toInt x
  have h2 := Int64.toInt_lt x
  unfold InL
  omega
theorem InR_and (a b : Int) : InR (z_and a b) := InR_of _
theorem InR_or (a b : Int) : InR (z_or a b) := InR_of _
theorem InR_xor (a b : Int) : InR (z_xor a b) := InR_of _
theorem InR_shl (a b : Int) : InR (z_shl a b) := InR_of _
theorem InR_shr (a b : Int) : InR (z_shr a b) := InR_of _
theorem InR_ushr (a b : Int) : InR (z_ushr a b) := InR_of _
theorem InL_and (a b : Int) : InL (y_and a b) := InL_of _
theorem InL_or (a b : Int) : InL (y_or a b) := InL_of _
theorem InL_xor (a b : Int) : InL (y_xor a b) := InL_of _
theorem InL_shl (a b : Int) : InL (y_shl a b) := InL_of _
theorem InL_ushr (a b : Int) : InL (y_ushr a b) := InL_of _
/-- a bit taken out: 'a >> k & 1' -/
theorem z_bit (a : Int) {k : Nat} (hk : k < 32) : z_and (z_shr a (k : Int)) 1 = if tb a k then 1 else 0 := by
  apply tb_ext (InR_and _ _) (by split <;> exact ⟨by omega, by omega⟩)
  intro i hi
  rw [tb_and, tb_1]
  by_cases h0 : i = 0
  · subst h0
    rw [tb_shr a hk (by omega)]
    simp only [Nat.add_zero, decide_true, Bool.and_true]
    cases tb a k <;> simp [tb_1, tb_0]
  · simp only [h0, decide_false, Bool.and_false]
    cases tb a k <;> simp [tb_1, tb_0, h0]
theorem z_bit0 {a : Int} (k : Nat) (hk : k < 32) : z_and (z_shr a (k : Int)) 1 = 0 ∨ z_and (z_shr a (k : Int)) 1 = 1 := by
  rw [z_bit a hk]
  cases tb a k <;> simp
theorem y_bit (a : Int) {k : Nat} (hk : k < 64) : y_and (y_ushr a (k : Int)) 1 = if lb a k then 1 else 0 := by
  apply lb_ext (InL_and _ _) (by split <;> exact ⟨by omega, by omega⟩)
  intro i hi
  rw [lb_and, lb_1, lb_ushr a hk]
  by_cases h0 : i = 0
  · subst h0
    simp only [Nat.add_zero, decide_true, Bool.and_true]
    cases lb a k <;> simp [lb_1, lb_0]
  · simp only [h0, decide_false, Bool.and_false]
    cases lb a k <;> simp [lb_1, lb_0, h0]
theorem lb_zero {a : Int} (ha : InL a) : a = 0 ↔ ∀ i, i < 64 → lb a i = false := by
  refine ⟨fun h i _ => by rw [h, lb_0], fun h => lb_ext ha ⟨by omega, by omega⟩ fun i hi => by rw [h i hi, lb_0]⟩
theorem tb_zero {a : Int} (ha : InR a) : a = 0 ↔ ∀ i, i < 32 → tb a i = false := by
  refine ⟨fun h i _ => by rw [h, tb_0], fun h => tb_ext ha ⟨by omega, by omega⟩ fun i hi => by rw [h i hi, tb_0]⟩
