/-! the JDK's counters of bits -/
def cnt (f : Nat → Bool) : Nat → Nat
  | 0 => 0
  | n + 1 => cnt f n + (if f n then 1 else 0)
theorem cnt_congr {f g : Nat → Bool} : ∀ {n : Nat}, (∀ i, i < n → f i = g i) → cnt f n = cnt g n
  | 0, _ => rfl
  | n + 1, h => by
    unfold cnt
    rw [cnt_congr (fun i hi => h i (by omega)), h n (by omega)]
theorem cnt_le (f : Nat → Bool) : ∀ n : Nat, cnt f n ≤ n
  | 0 => Nat.le_refl _
  | n + 1 => by
    unfold cnt
    have := cnt_le f n
    split <;> omega
theorem cnt_add (f : Nat → Bool) (m : Nat) : ∀ n : Nat, cnt f (m + n) = cnt f m + cnt (fun i => f (m + i)) n
  | 0 => rfl
  | n + 1 => by
    rw [← Nat.add_assoc]
    show cnt f (m + n) + _ = _ + (cnt (fun i => f (m + i)) n + _)
    rw [cnt_add f m n, Nat.add_assoc]
theorem cnt_f {f : Nat → Bool} {n : Nat} (h : ∀ i, i < n → f i = false) : cnt f n = 0 := by
  rw [cnt_congr (g := fun _ => false) h]
  clear h
  induction n with
  | zero => rfl
  | succ n ih => exact ih
theorem ofF (f : Nat → Bool) : ∀ n : Nat, ∃ w : Nat, w < 2 ^ n ∧ ∀ i, i < n → w.testBit i = f i
  | 0 => ⟨0, by simp, fun i hi => absurd hi (by omega)⟩
  | n + 1 => by
    obtain ⟨w, h1, h2⟩ := ofF f n
    by_cases q : f n = true
    · refine ⟨2 ^ n + w, by rw [Nat.pow_succ]; omega, fun i hi => ?_⟩
      by_cases e : i = n
      · rw [e, Nat.testBit_two_pow_add_eq, Nat.testBit_lt_two_pow h1, q]; rfl
      · rw [Nat.testBit_two_pow_add_gt (by omega) , h2 i (by omega)]
    · refine ⟨w, by rw [Nat.pow_succ]; omega, fun i hi => ?_⟩
      by_cases e : i = n
      · rw [e, Nat.testBit_lt_two_pow h1]; simpa using q
      · exact h2 i (by omega)
def spr : Nat → Nat → Nat
  | 0, _ => 0
  | n + 1, w => spr n w + (if w.testBit n then 2 ^ (5 * n) else 0)
theorem spr_b : ∀ w : Nat, w < 256 → ∀ j : Nat, j < 64 → (spr 8 w).testBit j = (decide (j % 5 = 0) && decide (j < 40) && w.testBit (j / 5)) := by decide +kernel
/-- what Long.bitCount does -/
def bcL (x : Int) : Int :=
  let a := x - y_and (y_ushr x 1) 6148914691236517205
  let b := y_and a 3689348814741910323 + y_and (y_ushr a 2) 3689348814741910323
  let c := y_and (b + y_ushr b 4) 1085102592571150095
  let d := c + y_ushr c 8
  let e := d + y_ushr d 16
  z_and (e + y_ushr e 32) 127
theorem bcL_s : ∀ w : Nat, w < 256 → bcL (spr 8 w : Nat) = (cnt (fun i => w.testBit i) 8 : Nat) := by decide +kernel
def bcI (x : Int) : Int :=
  let a := x - z_and (z_ushr x 1) 1431655765
  let b := z_and a 858993459 + z_and (z_ushr a 2) 858993459
  let c := z_and (b + z_ushr b 4) 252645135
  let d := c + z_ushr c 8
  z_and (d + z_ushr d 16) 63
theorem bcI_5 : ∀ w : Nat, w < 32 → bcI (w : Int) = (cnt (fun i => w.testBit i) 5 : Nat) := by decide +kernel
theorem zn_and {n m : Nat} (hn : n < 2147483648) (hm : m < 2147483648) : z_and (n : Int) (m : Int) = ((n &&& m : Nat) : Int) := by
  have := Nat.and_le_left (n := n) (m := m)
  refine tb_ext (InR_and _ _) (by unfold InR; omega) fun i hi => ?_
  rw [tb_and, tb_nat hi, tb_nat hi, tb_nat hi, Nat.testBit_and]
theorem zn_ushr {n k : Nat} (hn : n < 2147483648) (hk : k < 32) : z_ushr (n : Int) (k : Int) = ((n >>> k : Nat) : Int) := by
  have : n >>> k ≤ n := by rw [Nat.shiftRight_eq_div_pow]; exact Nat.div_le_self _ _
  refine tb_ext (InR_ushr _ _) (by generalize n >>> k = q at *; unfold InR; omega) fun i hi => ?_
  rw [tb_ushr _ hk, tb_nat hi, Nat.testBit_shiftRight]
  by_cases q : k + i < 32
  · rw [tb_nat q]
  · rw [tb_ge _ (by omega), Nat.testBit_lt_two_pow (Nat.lt_of_lt_of_le hn (Nat.pow_le_pow_right (n := 2) (i := 31) (by omega) (by omega)))]
theorem land8 {a m : Nat} (ha : a < 256) (hm : m < 256) (b n : Nat) : (a + 256 * b) &&& (m + 256 * n) = (a &&& m) + 256 * (b &&& n) := by
  have e : ∀ (a b i : Nat), a < 256 → (a + 256 * b).testBit i = if i < 8 then a.testBit i else b.testBit (i - 8) := fun a b i ha => by
    rw [Nat.add_comm]
    exact Nat.testBit_two_pow_mul_add (i := 8) b ha i
  have := Nat.and_le_left (n := a) (m := m)
  apply Nat.eq_of_testBit_eq
  intro i
  rw [Nat.testBit_and, e _ _ _ ha, e _ _ _ hm, e _ _ _ (by omega)]
  split <;> rw [Nat.testBit_and]
theorem by1 : ∀ x : Nat, x < 256 → ∀ t : Nat, t < 2 → (x / 2 + 128 * t) &&& 85 = x / 2 &&& 85 := by decide +kernel
theorem by2 : ∀ x : Nat, x < 256 → ∀ t : Nat, t < 4 → (x / 4 + 64 * t) &&& 51 = x / 4 &&& 51 := by decide +kernel
theorem by3 : ∀ x : Nat, x < 256 → (x / 2 &&& 85) ≤ x ∧ x - (x / 2 &&& 85) < 256 ∧ ((x - (x / 2 &&& 85)) &&& 51) + ((x - (x / 2 &&& 85)) / 4 &&& 51) = cnt (fun i => x.testBit i) 4 + 16 * cnt (fun i => x.testBit (4 + i)) 4 := by decide +kernel
theorem by4 : ∀ a : Nat, a < 5 → ∀ b : Nat, b < 5 → ∀ c : Nat, c < 5 → (a + 16 * b + b + 16 * c) &&& 15 = a + b := by decide +kernel
def s1 (x m : Nat) : Nat := x - (x / 2 &&& m)
def s2 (x m : Nat) : Nat := (x &&& m) + (x / 4 &&& m)
def s3 (x m : Nat) : Nat := (x + x / 16) &&& m
theorem s1_8 {x : Nat} (hx : x < 256) (y m : Nat) (hy : (y / 2 &&& m) ≤ y) : s1 (x + 256 * y) (85 + 256 * m) = s1 x 85 + 256 * s1 y m := by
  unfold s1
  rw [show (x + 256 * y) / 2 = (x / 2 + 128 * (y % 2)) + 256 * (y / 2) from by omega, land8 (by omega) (by omega), by1 x hx _ (by omega)]
  have := (by3 x hx).1
  omega
theorem s2_8 {x : Nat} (hx : x < 256) (y m : Nat) : s2 (x + 256 * y) (51 + 256 * m) = s2 x 51 + 256 * s2 y m := by
  unfold s2
  rw [show (x + 256 * y) / 4 = (x / 4 + 64 * (y % 4)) + 256 * (y / 4) from by omega, land8 (by omega) (by omega), land8 (by omega) (by omega), by2 x hx _ (by omega)]
  omega
theorem s3_8 {a b c d : Nat} (ha : a < 5) (hb : b < 5) (hc : c < 5) (m : Nat) : s3 (a + 16 * b + 256 * (c + 16 * d)) (15 + 256 * m) = (a + b) + 256 * s3 (c + 16 * d) m := by
  unfold s3
  rw [show a + 16 * b + 256 * (c + 16 * d) + (a + 16 * b + 256 * (c + 16 * d)) / 16 = (a + 16 * b + b + 16 * c) + 256 * (c + 16 * d + (c + 16 * d) / 16) from by omega, land8 (by omega) (by omega), by4 a ha b hb c hc]
theorem bcI_n {x : Nat} (hx : x < 16777216) : bcI (x : Int) = (((s3 (s2 (s1 x 1431655765) 858993459) 252645135 + s3 (s2 (s1 x 1431655765) 858993459) 252645135 / 256 + (s3 (s2 (s1 x 1431655765) 858993459) 252645135 + s3 (s2 (s1 x 1431655765) 858993459) 252645135 / 256) / 65536) &&& 63 : Nat) : Int) := by
  have e1 : z_and (z_ushr (x : Int) 1) 1431655765 = ((x / 2 &&& 1431655765 : Nat) : Int) := by
    rw [show (1 : Int) = ((1 : Nat) : Int) from rfl, zn_ushr (by omega) (by omega), show (1431655765 : Int) = ((1431655765 : Nat) : Int) from rfl, zn_and (by rw [Nat.shiftRight_eq_div_pow]; omega) (by omega), Nat.shiftRight_eq_div_pow]
  have l1 := Nat.and_le_left (n := x / 2) (m := 1431655765)
  have e2 : (x : Int) - ((x / 2 &&& 1431655765 : Nat) : Int) = ((s1 x 1431655765 : Nat) : Int) := by unfold s1; omega
  unfold bcI
  simp only [e1, e2]
  have l2 : s1 x 1431655765 < 16777216 := by unfold s1; omega
  generalize s1 x 1431655765 = a at *
  have e3 : z_and (a : Int) 858993459 = ((a &&& 858993459 : Nat) : Int) := by
    rw [show (858993459 : Int) = ((858993459 : Nat) : Int) from rfl, zn_and (by omega) (by omega)]
  have e4 : z_and (z_ushr (a : Int) 2) 858993459 = ((a / 4 &&& 858993459 : Nat) : Int) := by
    rw [show (2 : Int) = ((2 : Nat) : Int) from rfl, zn_ushr (by omega) (by omega), show (858993459 : Int) = ((858993459 : Nat) : Int) from rfl, zn_and (by rw [Nat.shiftRight_eq_div_pow]; omega) (by omega), Nat.shiftRight_eq_div_pow]
  have l3 := Nat.and_le_left (n := a) (m := 858993459)
  have l4 := Nat.and_le_left (n := a / 4) (m := 858993459)
  have e5 : ((a &&& 858993459 : Nat) : Int) + ((a / 4 &&& 858993459 : Nat) : Int) = ((s2 a 858993459 : Nat) : Int) := by unfold s2; omega
  simp only [e3, e4, e5]
  have l5 : s2 a 858993459 < 33554432 := by unfold s2; omega
  generalize s2 a 858993459 = b at *
  have e6 : z_and ((b : Int) + z_ushr (b : Int) 4) 252645135 = ((s3 b 252645135 : Nat) : Int) := by
    rw [show (4 : Int) = ((4 : Nat) : Int) from rfl, zn_ushr (by omega) (by omega), Nat.shiftRight_eq_div_pow, show (252645135 : Int) = ((252645135 : Nat) : Int) from rfl, ← Int.natCast_add, zn_and (by omega) (by omega)]
    rfl
  simp only [e6]
  have l6 : s3 b 252645135 < 67108864 := by
    have := Nat.and_le_left (n := b + b / 16) (m := 252645135)
    unfold s3
    omega
  generalize s3 b 252645135 = c at *
  have e7 : (c : Int) + z_ushr (c : Int) 8 = ((c + c / 256 : Nat) : Int) := by
    rw [show (8 : Int) = ((8 : Nat) : Int) from rfl, zn_ushr (by omega) (by omega), Nat.shiftRight_eq_div_pow, ← Int.natCast_add]
  simp only [e7]
  have l7 : c + c / 256 < 134217728 := by omega
  generalize c + c / 256 = d at *
  rw [show (16 : Int) = ((16 : Nat) : Int) from rfl, zn_ushr (by omega) (by omega), Nat.shiftRight_eq_div_pow, ← Int.natCast_add, show (63 : Int) = ((63 : Nat) : Int) from rfl, zn_and (by omega) (by omega)]
theorem bcI_20 {x : Nat} (hx : x < 1048576) : bcI (x : Int) = (cnt (fun i => x.testBit i) 20 : Nat) := by
  obtain ⟨a, b, c, ha, hb, hc, rfl⟩ : ∃ a b c : Nat, a < 256 ∧ b < 256 ∧ c < 16 ∧ x = a + 256 * (b + 256 * c) := ⟨x % 256, x / 256 % 256, x / 65536, by omega, by omega, by omega, by omega⟩
  rw [bcI_n (by omega)]
  have a3 := by3 a ha
  have b3 := by3 b hb
  have c3 := by3 c (by omega)
  have hs1 : s1 (a + 256 * (b + 256 * c)) 1431655765 = s1 a 85 + 256 * (s1 b 85 + 256 * s1 c 21845) := by
    rw [show (1431655765 : Nat) = 85 + 256 * (85 + 256 * 21845) from rfl]
    have q : ((b + 256 * c) / 2 &&& (85 + 256 * 21845)) ≤ b + 256 * c := by
      have := Nat.and_le_left (n := (b + 256 * c) / 2) (m := 85 + 256 * 21845)
      omega
    rw [s1_8 ha _ _ q, s1_8 hb _ _ (by have := Nat.and_le_left (n := c / 2) (m := 21845); omega)]
  have hc1 : ∀ c : Nat, c < 16 → s1 c 21845 = s1 c 85 ∧ s1 c 85 < 16 ∧ s2 (s1 c 85) 13107 = cnt (fun i => c.testBit i) 4 ∧ s3 (cnt (fun i => c.testBit i) 4) 3855 = cnt (fun i => c.testBit i) 4 := by decide +kernel
  obtain ⟨c4, c5, c6, c7⟩ := hc1 c hc
  have hs2 : s2 (s1 a 85 + 256 * (s1 b 85 + 256 * s1 c 85)) 858993459 = (cnt (fun i => a.testBit i) 4 + 16 * cnt (fun i => a.testBit (4 + i)) 4) + 256 * ((cnt (fun i => b.testBit i) 4 + 16 * cnt (fun i => b.testBit (4 + i)) 4) + 256 * cnt (fun i => c.testBit i) 4) := by
    rw [show (858993459 : Nat) = 51 + 256 * (51 + 256 * 13107) from rfl, s2_8 (show s1 a 85 < 256 from a3.2.1), s2_8 (show s1 b 85 < 256 from b3.2.1), c6]
    unfold s2 s1
    rw [a3.2.2, b3.2.2]
  rw [hs1, c4, hs2]
  have q1 := cnt_le (fun i => a.testBit i) 4
  have q2 := cnt_le (fun i => a.testBit (4 + i)) 4
  have q3 := cnt_le (fun i => b.testBit i) 4
  have q4 := cnt_le (fun i => b.testBit (4 + i)) 4
  have q5 := cnt_le (fun i => c.testBit i) 4
  have e : ∀ (a b i : Nat), a < 256 → (a + 256 * b).testBit i = if i < 8 then a.testBit i else b.testBit (i - 8) := fun a b i ha => by
    rw [Nat.add_comm]
    exact Nat.testBit_two_pow_mul_add (i := 8) b ha i
  have hcnt : cnt (fun i => (a + 256 * (b + 256 * c)).testBit i) 20 = cnt (fun i => a.testBit i) 4 + cnt (fun i => a.testBit (4 + i)) 4 + (cnt (fun i => b.testBit i) 4 + cnt (fun i => b.testBit (4 + i)) 4) + cnt (fun i => c.testBit i) 4 := by
    rw [show (20 : Nat) = 8 + (8 + 4) from rfl, cnt_add, cnt_add, ← cnt_add (fun i => a.testBit i) 4 4, ← cnt_add (fun i => b.testBit i) 4 4, ← Nat.add_assoc]
    congr 1
    · congr 1
      · exact cnt_congr fun i hi => by rw [e _ _ _ ha, if_pos hi]
      · exact cnt_congr fun i hi => by rw [e _ _ _ ha, if_neg (by omega), Nat.add_sub_cancel_left, e _ _ _ hb, if_pos hi]
    · exact cnt_congr fun i hi => by rw [e _ _ _ ha, if_neg (by omega), Nat.add_sub_cancel_left, e _ _ _ hb, if_neg (by omega), Nat.add_sub_cancel_left]
  rw [hcnt]
  generalize cnt (fun i => a.testBit i) 4 = A at *
  generalize cnt (fun i => a.testBit (4 + i)) 4 = B at *
  generalize cnt (fun i => b.testBit i) 4 = C at *
  generalize cnt (fun i => b.testBit (4 + i)) 4 = D at *
  generalize cnt (fun i => c.testBit i) 4 = F at *
  have hs3 : s3 (A + 16 * B + 256 * (C + 16 * D + 256 * F)) 252645135 = (A + B) + 256 * ((C + D) + 256 * F) := by
    rw [show (252645135 : Nat) = 15 + 256 * (15 + 256 * 3855) from rfl, show C + 16 * D + 256 * F = C + 16 * (D + 16 * F) from by omega, s3_8 (by omega) (by omega) (by omega), show C + 16 * (D + 16 * F) = C + 16 * D + 256 * (F + 16 * 0) from by omega, s3_8 (by omega) (by omega) (by omega), Nat.mul_zero, Nat.add_zero, c7]
  rw [hs3]
  clear hs3 hcnt c7 c6 hs2 hs1 hc1 a3 b3 c3
  rw [show (A + B + 256 * (C + D + 256 * F)) / 256 = C + D + 256 * F from by omega, show (A + B + 256 * (C + D + 256 * F) + (C + D + 256 * F)) / 65536 = F from by omega]
  congr 1
  rw [show (63 : Nat) = 2 ^ 6 - 1 from rfl, Nat.and_two_pow_sub_one_eq_mod]
  omega
set_option maxHeartbeats 4000000 in
theorem sp_bcI0 (l : Launch) (G : zG) (h : zH) (x : Int) (lv : Nat) (hlv : 1 ≤ lv) : z_Sp l G mtJ6_bitCount_0f7a4 lv 0 0 [vI x] (h) (rI (bcI x) h) := by
  refine x_enter [vI x] (by decide +kernel) (by omega) rfl (Nat.le_of_ble_eq_true rfl) ?_
  refine z_run1 tsJ6_bitCount_0f7a4 [] 60 ?_
  simp (maxSteps := 1000000) -implicitDefEqProofs +contextual (disch := omega) only [z_wp_t, z_wp_u, ↓pI_e, ↓pL_e, ↓pO_e, ↓pR_e, ↓p1_I, ↓p1_O, z_gl, z_st1, z_st2, z_nl_I, z_nl_O, z_nl_J, z_nl_L, if_true, if_false, ite_true, ite_false, true_and, and_true, List.mem_cons, List.not_mem_nil, or_false, false_or, or_self, List.length_cons, List.length_nil, InR_t, InL_t, z_ix_t, mI_s1, mI_s2, ↓brT, ↓brF, ↓brT', ↓brF', mL_sI, mR_sI, mK_sI, mS_sI, mI_sL, mL_s1, mL_s2, mR_sL, mK_sL, mS_sL, mI_sR, mL_sR, mR_s1, mR_s2, mK_sR, mS_sR, mA_s1, mA_s2, mL_sA, mR_sA, mK_sA, mS_sA, ix_n, ix_a, ix_m, ix_s, z_sw, z_stop, forall_const, true_implies, false_implies, imp_self, implies_true, not_true_eq_false, not_false_eq_true, ne_eq, eq_self, Option.some.injEq, reduceCtorEq, Nat.reduceAdd, Nat.reduceSub, Nat.reduceMul, Nat.reduceEqDiff, Nat.reduceLT, Nat.reduceLeDiff, Int.reduceAdd, Int.reduceMul, Int.reduceSub, Int.reduceNeg, Int.reduceToNat, Int.reduceLT, Int.reduceLE, Int.reduceEq, ↓reduceIte, List.reverse_cons, Option.toList, List.cons_append, List.nil_append, vI_inj, vL_inj, vO_inj, rI, rL, rO, rV, mI_sQ, mL_sQ, mK_sQ, mS_sQ, mQ_s1, mQ_s2, tlJ6_bitCount_0f7a4, o_iadd, o_iand, o_ic, o_iload, o_iret, o_istore, o_isub, o_iushr]
  try simp +contextual (disch := omega) only [impF, impT, and_true, true_and, implies_true, not_false_eq_true, not_true_eq_false]
  rfl
set_option maxHeartbeats 4000000 in
theorem sp_bcL0 (l : Launch) (G : zG) (h : zH) (x : Int) (lv : Nat) (hlv : 1 ≤ lv) : z_Sp l G mtJ13_bitCount_95d88 lv 0 0 [vL x] (h) (rI (bcL x) h) := by
  refine x_enter [vL x, vJ] (by decide +kernel) (by omega) rfl (Nat.le_of_ble_eq_true rfl) ?_
  refine z_run1 tsJ13_bitCount_95d88 [] 60 ?_
  simp (maxSteps := 1000000) -implicitDefEqProofs +contextual (disch := omega) only [z_wp_t, z_wp_u, ↓pI_e, ↓pL_e, ↓pO_e, ↓pR_e, ↓p1_I, ↓p1_O, z_gl, z_st1, z_st2, z_nl_I, z_nl_O, z_nl_J, z_nl_L, if_true, if_false, ite_true, ite_false, true_and, and_true, List.mem_cons, List.not_mem_nil, or_false, false_or, or_self, List.length_cons, List.length_nil, InR_t, InL_t, z_ix_t, mI_s1, mI_s2, ↓brT, ↓brF, ↓brT', ↓brF', mL_sI, mR_sI, mK_sI, mS_sI, mI_sL, mL_s1, mL_s2, mR_sL, mK_sL, mS_sL, mI_sR, mL_sR, mR_s1, mR_s2, mK_sR, mS_sR, mA_s1, mA_s2, mL_sA, mR_sA, mK_sA, mS_sA, ix_n, ix_a, ix_m, ix_s, z_sw, z_stop, forall_const, true_implies, false_implies, imp_self, implies_true, not_true_eq_false, not_false_eq_true, ne_eq, eq_self, Option.some.injEq, reduceCtorEq, Nat.reduceAdd, Nat.reduceSub, Nat.reduceMul, Nat.reduceEqDiff, Nat.reduceLT, Nat.reduceLeDiff, Int.reduceAdd, Int.reduceMul, Int.reduceSub, Int.reduceNeg, Int.reduceToNat, Int.reduceLT, Int.reduceLE, Int.reduceEq, ↓reduceIte, List.reverse_cons, Option.toList, List.cons_append, List.nil_append, vI_inj, vL_inj, vO_inj, rI, rL, rO, rV, mI_sQ, mL_sQ, mK_sQ, mS_sQ, mQ_s1, mQ_s2, tlJ13_bitCount_95d88, o_iand, o_ic, o_iret, o_l2i, o_ladd, o_land, o_lc, o_lload, o_lstore, o_lsub, o_lushr]
  try simp +contextual (disch := omega) only [impF, impT, and_true, true_and, implies_true, not_false_eq_true, not_true_eq_false]
  rfl
theorem sp_bcI5 (l : Launch) (G : zG) (h : zH) (x : Int) (hx : 0 ≤ x ∧ x < 32) (lv : Nat) (hlv : 1 ≤ lv) : z_Sp l G mtJ6_bitCount_0f7a4 lv 0 0 [vI x] h (rI ((cnt (tb x) 5 : Nat) : Int) h) := by
  have := sp_bcI0 l G h x lv hlv
  obtain ⟨n, rfl⟩ := Int.eq_ofNat_of_zero_le hx.1
  rw [bcI_5 n (by omega), cnt_congr (g := tb (n : Int)) (fun i hi => (tb_nat (by omega)).symm)] at this
  exact this
theorem sp_bcI20 (l : Launch) (G : zG) (h : zH) (x : Int) (hx : 0 ≤ x ∧ x < 1048576) (lv : Nat) (hlv : 1 ≤ lv) : z_Sp l G mtJ6_bitCount_0f7a4 lv 0 0 [vI x] h (rI ((cnt (tb x) 20 : Nat) : Int) h) := by
  have := sp_bcI0 l G h x lv hlv
  obtain ⟨n, rfl⟩ := Int.eq_ofNat_of_zero_le hx.1
  rw [bcI_20 (x := n) (by omega), cnt_congr (g := tb (n : Int)) (fun i hi => (tb_nat (by omega)).symm)] at this
  exact this
theorem spr_lt : ∀ w : Nat, w < 256 → spr 8 w < 1099511627776 := by decide +kernel
theorem sp_bcL8 (l : Launch) (G : zG) (h : zH) (x : Int) (hx : InL x) (hb : ∀ j, j < 64 → lb x j = true → j % 5 = 0 ∧ j < 40) (lv : Nat) (hlv : 1 ≤ lv) : z_Sp l G mtJ13_bitCount_95d88 lv 0 0 [vL x] h (rI ((cnt (fun i => lb x (5 * i)) 8 : Nat) : Int) h) := by
  have := sp_bcL0 l G h x lv hlv
  obtain ⟨w, h1, h2⟩ := ofF (fun i => lb x (5 * i)) 8
  have hl := spr_lt w h1
  have e : x = ((spr 8 w : Nat) : Int) := by
    refine lb_ext hx (by unfold InL; omega) fun j hj => ?_
    rw [lb_nat hj, spr_b w h1 j hj]
    by_cases q : lb x j = true
    · have := hb j hj q
      rw [h2 (j / 5) (by omega), show 5 * (j / 5) = j from by omega, q]
      simp [this]
    · by_cases q1 : j % 5 = 0
      · by_cases q2 : j < 40
        · rw [h2 (j / 5) (by omega), show 5 * (j / 5) = j from by omega]
          simp [q]
        · simp [q, q2]
      · simp [q, q1]
  rw [cnt_congr (f := fun i => lb x (5 * i)) (g := fun i => w.testBit i) (fun i hi => (h2 i hi).symm), ← bcL_s w h1, ← e]
  exact this
theorem ntz_a : ∀ v : Nat, v < 5 → z_and (z_xor ((2 ^ v : Nat) : Int) (-1)) (((2 ^ v : Nat) : Int) - 1) = ((2 ^ v - 1 : Nat) : Int) := by decide +kernel
theorem ntz_b : z_and 0 32 = 0 ∧ z_ushr 1 1 = 0 ∧ z_ushr 3 1 = 1 ∧ z_ushr 7 2 = 1 ∧ z_ushr 15 2 = 3 := by decide +kernel
set_option maxHeartbeats 4000000 in
theorem sp_ntz (l : Launch) (G : zG) (h : zH) (v : Nat) (hv : v < 5) (lv : Nat) (hlv : 1 ≤ lv) : z_Sp l G mtJ6_numberOfTrailingZeros_0f7a4 lv 0 0 [vI ((2 ^ v : Nat) : Int)] (h) (rI (v : Int) h) := by
  have hy := ntz_a v hv
  generalize hx : ((2 ^ v : Nat) : Int) = x at *
  obtain ⟨b1, b2, b3, b4, b5⟩ := ntz_b
  obtain e | e | e | e | e : v = 0 ∨ v = 1 ∨ v = 2 ∨ v = 3 ∨ v = 4 := by omega
  all_goals (subst e; clear hx hv; refine x_enter [vI x, vJ] (by decide +kernel) (by omega) rfl (Nat.le_of_ble_eq_true rfl) ?_)
  · have hy : z_and (z_xor x (-1)) (x - 1) = 0 := hy
    refine z_run1 tsJ6_numberOfTrailingZeros_0f7a4 [] 60 ?_
    simp (maxSteps := 1000000) -implicitDefEqProofs +contextual (disch := omega) only [z_wp_t, z_wp_u, ↓pI_e, ↓pL_e, ↓pO_e, ↓pR_e, ↓p1_I, ↓p1_O, z_gl, z_st1, z_st2, z_nl_I, z_nl_O, z_nl_J, z_nl_L, if_true, if_false, ite_true, ite_false, true_and, and_true, List.mem_cons, List.not_mem_nil, or_false, false_or, or_self, List.length_cons, List.length_nil, InR_t, InL_t, z_ix_t, mI_s1, mI_s2, ↓brT, ↓brF, ↓brT', ↓brF', mL_sI, mR_sI, mK_sI, mS_sI, mI_sL, mL_s1, mL_s2, mR_sL, mK_sL, mS_sL, mI_sR, mL_sR, mR_s1, mR_s2, mK_sR, mS_sR, mA_s1, mA_s2, mL_sA, mR_sA, mK_sA, mS_sA, ix_n, ix_a, ix_m, ix_s, z_sw, z_stop, forall_const, true_implies, false_implies, imp_self, implies_true, not_true_eq_false, not_false_eq_true, ne_eq, eq_self, Option.some.injEq, reduceCtorEq, Nat.reduceAdd, Nat.reduceSub, Nat.reduceMul, Nat.reduceEqDiff, Nat.reduceLT, Nat.reduceLeDiff, Int.reduceAdd, Int.reduceMul, Int.reduceSub, Int.reduceNeg, Int.reduceToNat, Int.reduceLT, Int.reduceLE, Int.reduceEq, ↓reduceIte, List.reverse_cons, Option.toList, List.cons_append, List.nil_append, vI_inj, vL_inj, vO_inj, rI, rL, rO, rV, mI_sQ, mL_sQ, mK_sQ, mS_sQ, mQ_s1, mQ_s2, tlJ6_numberOfTrailingZeros_0f7a4, o_iadd, o_iand, o_ic, o_icle, o_ifgt, o_iinc, o_iload, o_iret, o_istore, o_isub, o_iushr, o_ixor, hy, b1]
    try simp +contextual (disch := omega) only [impF, impT, and_true, true_and, implies_true, not_false_eq_true, not_true_eq_false]
    try rfl
  · have hy : z_and (z_xor x (-1)) (x - 1) = 1 := hy
    refine z_run1 tsJ6_numberOfTrailingZeros_0f7a4 [] 60 ?_
    simp (maxSteps := 1000000) -implicitDefEqProofs +contextual (disch := omega) only [z_wp_t, z_wp_u, ↓pI_e, ↓pL_e, ↓pO_e, ↓pR_e, ↓p1_I, ↓p1_O, z_gl, z_st1, z_st2, z_nl_I, z_nl_O, z_nl_J, z_nl_L, if_true, if_false, ite_true, ite_false, true_and, and_true, List.mem_cons, List.not_mem_nil, or_false, false_or, or_self, List.length_cons, List.length_nil, InR_t, InL_t, z_ix_t, mI_s1, mI_s2, ↓brT, ↓brF, ↓brT', ↓brF', mL_sI, mR_sI, mK_sI, mS_sI, mI_sL, mL_s1, mL_s2, mR_sL, mK_sL, mS_sL, mI_sR, mL_sR, mR_s1, mR_s2, mK_sR, mS_sR, mA_s1, mA_s2, mL_sA, mR_sA, mK_sA, mS_sA, ix_n, ix_a, ix_m, ix_s, z_sw, z_stop, forall_const, true_implies, false_implies, imp_self, implies_true, not_true_eq_false, not_false_eq_true, ne_eq, eq_self, Option.some.injEq, reduceCtorEq, Nat.reduceAdd, Nat.reduceSub, Nat.reduceMul, Nat.reduceEqDiff, Nat.reduceLT, Nat.reduceLeDiff, Int.reduceAdd, Int.reduceMul, Int.reduceSub, Int.reduceNeg, Int.reduceToNat, Int.reduceLT, Int.reduceLE, Int.reduceEq, ↓reduceIte, List.reverse_cons, Option.toList, List.cons_append, List.nil_append, vI_inj, vL_inj, vO_inj, rI, rL, rO, rV, mI_sQ, mL_sQ, mK_sQ, mS_sQ, mQ_s1, mQ_s2, tlJ6_numberOfTrailingZeros_0f7a4, o_iadd, o_iand, o_ic, o_icle, o_ifgt, o_iinc, o_iload, o_iret, o_istore, o_isub, o_iushr, o_ixor, hy, b2]
    try simp +contextual (disch := omega) only [impF, impT, and_true, true_and, implies_true, not_false_eq_true, not_true_eq_false]
    try rfl
  · have hy : z_and (z_xor x (-1)) (x - 1) = 3 := hy
    refine z_run1 tsJ6_numberOfTrailingZeros_0f7a4 [] 60 ?_
    simp (maxSteps := 1000000) -implicitDefEqProofs +contextual (disch := omega) only [z_wp_t, z_wp_u, ↓pI_e, ↓pL_e, ↓pO_e, ↓pR_e, ↓p1_I, ↓p1_O, z_gl, z_st1, z_st2, z_nl_I, z_nl_O, z_nl_J, z_nl_L, if_true, if_false, ite_true, ite_false, true_and, and_true, List.mem_cons, List.not_mem_nil, or_false, false_or, or_self, List.length_cons, List.length_nil, InR_t, InL_t, z_ix_t, mI_s1, mI_s2, ↓brT, ↓brF, ↓brT', ↓brF', mL_sI, mR_sI, mK_sI, mS_sI, mI_sL, mL_s1, mL_s2, mR_sL, mK_sL, mS_sL, mI_sR, mL_sR, mR_s1, mR_s2, mK_sR, mS_sR, mA_s1, mA_s2, mL_sA, mR_sA, mK_sA, mS_sA, ix_n, ix_a, ix_m, ix_s, z_sw, z_stop, forall_const, true_implies, false_implies, imp_self, implies_true, not_true_eq_false, not_false_eq_true, ne_eq, eq_self, Option.some.injEq, reduceCtorEq, Nat.reduceAdd, Nat.reduceSub, Nat.reduceMul, Nat.reduceEqDiff, Nat.reduceLT, Nat.reduceLeDiff, Int.reduceAdd, Int.reduceMul, Int.reduceSub, Int.reduceNeg, Int.reduceToNat, Int.reduceLT, Int.reduceLE, Int.reduceEq, ↓reduceIte, List.reverse_cons, Option.toList, List.cons_append, List.nil_append, vI_inj, vL_inj, vO_inj, rI, rL, rO, rV, mI_sQ, mL_sQ, mK_sQ, mS_sQ, mQ_s1, mQ_s2, tlJ6_numberOfTrailingZeros_0f7a4, o_iadd, o_iand, o_ic, o_icle, o_ifgt, o_iinc, o_iload, o_iret, o_istore, o_isub, o_iushr, o_ixor, hy, b3]
    try simp +contextual (disch := omega) only [impF, impT, and_true, true_and, implies_true, not_false_eq_true, not_true_eq_false]
    try rfl
  · have hy : z_and (z_xor x (-1)) (x - 1) = 7 := hy
    refine z_run1 tsJ6_numberOfTrailingZeros_0f7a4 [] 60 ?_
    simp (maxSteps := 1000000) -implicitDefEqProofs +contextual (disch := omega) only [z_wp_t, z_wp_u, ↓pI_e, ↓pL_e, ↓pO_e, ↓pR_e, ↓p1_I, ↓p1_O, z_gl, z_st1, z_st2, z_nl_I, z_nl_O, z_nl_J, z_nl_L, if_true, if_false, ite_true, ite_false, true_and, and_true, List.mem_cons, List.not_mem_nil, or_false, false_or, or_self, List.length_cons, List.length_nil, InR_t, InL_t, z_ix_t, mI_s1, mI_s2, ↓brT, ↓brF, ↓brT', ↓brF', mL_sI, mR_sI, mK_sI, mS_sI, mI_sL, mL_s1, mL_s2, mR_sL, mK_sL, mS_sL, mI_sR, mL_sR, mR_s1, mR_s2, mK_sR, mS_sR, mA_s1, mA_s2, mL_sA, mR_sA, mK_sA, mS_sA, ix_n, ix_a, ix_m, ix_s, z_sw, z_stop, forall_const, true_implies, false_implies, imp_self, implies_true, not_true_eq_false, not_false_eq_true, ne_eq, eq_self, Option.some.injEq, reduceCtorEq, Nat.reduceAdd, Nat.reduceSub, Nat.reduceMul, Nat.reduceEqDiff, Nat.reduceLT, Nat.reduceLeDiff, Int.reduceAdd, Int.reduceMul, Int.reduceSub, Int.reduceNeg, Int.reduceToNat, Int.reduceLT, Int.reduceLE, Int.reduceEq, ↓reduceIte, List.reverse_cons, Option.toList, List.cons_append, List.nil_append, vI_inj, vL_inj, vO_inj, rI, rL, rO, rV, mI_sQ, mL_sQ, mK_sQ, mS_sQ, mQ_s1, mQ_s2, tlJ6_numberOfTrailingZeros_0f7a4, o_iadd, o_iand, o_ic, o_icle, o_ifgt, o_iinc, o_iload, o_iret, o_istore, o_isub, o_iushr, o_ixor, hy, b4, b2]
    try simp +contextual (disch := omega) only [impF, impT, and_true, true_and, implies_true, not_false_eq_true, not_true_eq_false]
    try rfl
  · have hy : z_and (z_xor x (-1)) (x - 1) = 15 := hy
    refine z_run1 tsJ6_numberOfTrailingZeros_0f7a4 [] 60 ?_
    simp (maxSteps := 1000000) -implicitDefEqProofs +contextual (disch := omega) only [z_wp_t, z_wp_u, ↓pI_e, ↓pL_e, ↓pO_e, ↓pR_e, ↓p1_I, ↓p1_O, z_gl, z_st1, z_st2, z_nl_I, z_nl_O, z_nl_J, z_nl_L, if_true, if_false, ite_true, ite_false, true_and, and_true, List.mem_cons, List.not_mem_nil, or_false, false_or, or_self, List.length_cons, List.length_nil, InR_t, InL_t, z_ix_t, mI_s1, mI_s2, ↓brT, ↓brF, ↓brT', ↓brF', mL_sI, mR_sI, mK_sI, mS_sI, mI_sL, mL_s1, mL_s2, mR_sL, mK_sL, mS_sL, mI_sR, mL_sR, mR_s1, mR_s2, mK_sR, mS_sR, mA_s1, mA_s2, mL_sA, mR_sA, mK_sA, mS_sA, ix_n, ix_a, ix_m, ix_s, z_sw, z_stop, forall_const, true_implies, false_implies, imp_self, implies_true, not_true_eq_false, not_false_eq_true, ne_eq, eq_self, Option.some.injEq, reduceCtorEq, Nat.reduceAdd, Nat.reduceSub, Nat.reduceMul, Nat.reduceEqDiff, Nat.reduceLT, Nat.reduceLeDiff, Int.reduceAdd, Int.reduceMul, Int.reduceSub, Int.reduceNeg, Int.reduceToNat, Int.reduceLT, Int.reduceLE, Int.reduceEq, ↓reduceIte, List.reverse_cons, Option.toList, List.cons_append, List.nil_append, vI_inj, vL_inj, vO_inj, rI, rL, rO, rV, mI_sQ, mL_sQ, mK_sQ, mS_sQ, mQ_s1, mQ_s2, tlJ6_numberOfTrailingZeros_0f7a4, o_iadd, o_iand, o_ic, o_icle, o_ifgt, o_iinc, o_iload, o_iret, o_istore, o_isub, o_iushr, o_ixor, hy, b5, b3]
    try simp +contextual (disch := omega) only [impF, impT, and_true, true_and, implies_true, not_false_eq_true, not_true_eq_false]
    try rfl
