/-! Puzzle: longs as sets of spots; packsOf, valuesOf, leastCost, changesOf, presentOf -/
theorem iL_and (a b : Int) : InL (y_and a b) = True := eq_true (InL_and a b)
theorem iL_or (a b : Int) : InL (y_or a b) = True := eq_true (InL_or a b)
theorem iL_xor (a b : Int) : InL (y_xor a b) = True := eq_true (InL_xor a b)
theorem iL_shl (a b : Int) : InL (y_shl a b) = True := eq_true (InL_shl a b)
theorem iL_ushr (a b : Int) : InL (y_ushr a b) = True := eq_true (InL_ushr a b)
theorem iR_and (a b : Int) : InR (z_and a b) = True := eq_true (InR_and a b)
theorem iR_or (a b : Int) : InR (z_or a b) = True := eq_true (InR_or a b)
theorem iR_xor (a b : Int) : InR (z_xor a b) = True := eq_true (InR_xor a b)
theorem iR_shl (a b : Int) : InR (z_shl a b) = True := eq_true (InR_shl a b)
theorem iR_shr (a b : Int) : InR (z_shr a b) = True := eq_true (InR_shr a b)
theorem iR_ushr (a b : Int) : InR (z_ushr a b) = True := eq_true (InR_ushr a b)
theorem iR_cmp (a b : Int) : InR (y_cmp a b) = True := by
  refine eq_true ?_
  unfold InR y_cmp
  split
  · omega
  · split <;> omega
theorem yc0 (a b : Int) : (y_cmp a b = 0) = (a = b) := by
  refine propext ?_
  unfold y_cmp
  split
  · omega
  · split <;> omega
/-- places whose value isn't known any more -/
def z_wk : List zV → List zV → Prop
  | [], [] => True
  | a :: l, b :: m => (b = a ∨ b = vJ) ∧ z_wk l m
  | _, _ => False
theorem z_wk_at : ∀ {l m : List zV}, z_wk l m → m.length = l.length ∧ ∀ (k : Nat) (v : zV), m[k]? = some v → v ≠ vJ → l[k]? = some v
  | [], [], _ => ⟨rfl, fun k v h _ => h⟩
  | [], _ :: _, h => h.elim
  | _ :: _, [], h => h.elim
  | a :: l, b :: m, h => by
    obtain ⟨h1, h2⟩ := z_wk_at h.2
    refine ⟨by simp [h1], fun k v hk hv => ?_⟩
    cases k with
    | zero =>
      simp only [List.getElem?_cons_zero, Option.some.injEq] at hk ⊢
      rcases h.1 with e | e
      · rw [← e]; exact hk
      · exact absurd (hk.symm.trans e) hv
    | succ k =>
      simp only [List.getElem?_cons_succ] at hk ⊢
      exact h2 k v hk hv
theorem x_wk {l : Launch} {G : zG} {μ : zM} {lv mc ms : Nat} {Q : Option zV → zH → Prop} {cells slots : Nat} {h : zH} {pc : Nat} {ls st : List zV} (ls' : List zV) (hw : z_wk ls ls') (kk : z_X l G μ lv mc ms Q cells slots h pc ls' st) : z_X l G μ lv mc ms Q cells slots h pc ls st := by
  intro p e s m args below meth c H locs A C hR hS hL hn hc1 hc2 hlv
  obtain ⟨h1, h2⟩ := z_wk_at hw
  exact kk p e s m args below meth c H locs A C hR hS ⟨hL.1.trans h1.symm, hL.2.1, fun k v hk hv => hL.2.2 k v (h2 k v hk hv) hv⟩ (h1.trans hn) hc1 hc2 hlv
theorem tb_lb {z : Int} {i : Nat} (hi : i < 32) : tb z i = lb z i := by
  unfold tb lb
  rw [Int32.toBitVec_ofInt, Int64.toBitVec_ofInt]
  show (BitVec.ofInt 32 z).toNat.testBit i = (BitVec.ofInt 64 z).toNat.testBit i
  rw [BitVec.toNat_ofInt, BitVec.toNat_ofInt]
  have e : (z % ((2 ^ 32 : Nat) : Int)).toNat = (z % ((2 ^ 64 : Nat) : Int)).toNat % 2 ^ 32 := by
    show (z % 4294967296).toNat = (z % 18446744073709551616).toNat % 4294967296
    omega
  rw [e, Nat.testBit_mod_two_pow]
  simp [hi]
theorem tb_small {n : Nat} (hn : n ≤ 31) {x : Int} (hx : InR x) (h : ∀ i, n ≤ i → i < 32 → tb x i = false) : 0 ≤ x ∧ x < ((2 ^ n : Nat) : Int) := by
  obtain ⟨w, h1, h2⟩ := ofF (tb x) n
  have hp : 2 ^ n ≤ 2 ^ 31 := Nat.pow_le_pow_right (by omega) hn
  have e : x = (w : Int) := by
    refine tb_ext hx (by unfold InR; omega) fun i hi => ?_
    rw [tb_nat hi]
    by_cases q : i < n
    · exact (h2 i q).symm
    · rw [h i (by omega) hi, Nat.testBit_lt_two_pow (Nat.lt_of_lt_of_le h1 (Nat.pow_le_pow_right (by omega) (by omega)))]
  omega
theorem tb31 : ∀ i : Nat, i < 32 → tb 31 i = decide (i < 5) := by decide +kernel
def pk (x : Int) (p : Nat) : Bool := lb x (5 * p) || lb x (5 * p + 1) || lb x (5 * p + 2) || lb x (5 * p + 3) || lb x (5 * p + 4)
theorem pk_iff {x : Int} {p : Nat} : pk x p = true ↔ ∃ v, v < 5 ∧ lb x (5 * p + v) = true := by
  unfold pk
  simp only [Bool.or_eq_true]
  constructor
  · rintro ((((h | h) | h) | h) | h)
    · exact ⟨0, by omega, h⟩
    · exact ⟨1, by omega, h⟩
    · exact ⟨2, by omega, h⟩
    · exact ⟨3, by omega, h⟩
    · exact ⟨4, by omega, h⟩
  · rintro ⟨v, hv, h⟩
    obtain e | e | e | e | e : v = 0 ∨ v = 1 ∨ v = 2 ∨ v = 3 ∨ v = 4 := by omega
    all_goals (subst e; (try simp only [Nat.add_zero] at h); simp [h])
def pkL (x : Int) : Int := y_and (y_or (y_or (y_or (y_or x (y_ushr x 1)) (y_ushr x 2)) (y_ushr x 3)) (y_ushr x 4)) 35468117025
theorem lb_abs : ∀ j : Nat, j < 64 → lb 35468117025 j = (decide (j % 5 = 0) && decide (j < 40)) := by decide +kernel
theorem pkL_b (x : Int) {j : Nat} (hj : j < 64) : lb (pkL x) j = (decide (j % 5 = 0) && decide (j < 40) && pk x (j / 5)) := by
  have e1 : lb (y_ushr x 1) j = lb x (1 + j) := lb_ushr x (k := 1) (by omega) j
  have e2 : lb (y_ushr x 2) j = lb x (2 + j) := lb_ushr x (k := 2) (by omega) j
  have e3 : lb (y_ushr x 3) j = lb x (3 + j) := lb_ushr x (k := 3) (by omega) j
  have e4 : lb (y_ushr x 4) j = lb x (4 + j) := lb_ushr x (k := 4) (by omega) j
  unfold pkL
  rw [lb_and, lb_or, lb_or, lb_or, lb_or, lb_abs j hj, e1, e2, e3, e4]
  by_cases h1 : j % 5 = 0
  · by_cases h2 : j < 40
    · unfold pk
      rw [show 5 * (j / 5) = j from by omega, Nat.add_comm 1 j, Nat.add_comm 2 j, Nat.add_comm 3 j, Nat.add_comm 4 j]
      simp [h1, h2]
    · simp [h2]
  · simp [h1]
theorem pkL_p (x : Int) {p : Nat} (hp : p < 8) : lb (pkL x) (5 * p) = pk x p := by
  rw [pkL_b x (by omega), show 5 * p % 5 = 0 from by omega, show 5 * p / 5 = p from by omega]
  simp
  omega
theorem pkL_eq {x : Int} : pkL x = 35468117025 ↔ ∀ p, p < 8 → pk x p = true := by
  constructor
  · intro h p hp
    rw [← pkL_p x hp, h, lb_abs _ (by omega)]
    simp
    omega
  · intro h
    refine lb_ext (InL_and _ _) (by unfold InL; omega) fun j hj => ?_
    rw [pkL_b x hj, lb_abs j hj]
    by_cases h2 : j < 40
    · rw [h _ (by omega)]; simp
    · simp [h2]
theorem pkL_L (x : Int) : InL (pkL x) := InL_and _ _
set_option maxHeartbeats 4000000 in
theorem sp_packsOf (l : Launch) (G : zG) (h : zH) (x : Int) (lv : Nat) (hlv : 1 ≤ lv) : z_Sp l G mtX2_packsOf lv 0 0 [vL x] (h) (rL (pkL x) h) := by
  refine x_enter [vL x, vJ] (by decide +kernel) (by omega) rfl (Nat.le_of_ble_eq_true rfl) ?_
  refine z_run1 tsX2_packsOf [] 60 ?_
  simp (maxSteps := 1000000) -implicitDefEqProofs +contextual (disch := omega) only [z_wp_t, z_wp_u, ↓pI_e, ↓pL_e, ↓pO_e, ↓pR_e, ↓p1_I, ↓p1_O, z_gl, z_st1, z_st2, z_nl_I, z_nl_O, z_nl_J, z_nl_L, if_true, if_false, ite_true, ite_false, true_and, and_true, List.mem_cons, List.not_mem_nil, or_false, false_or, or_self, List.length_cons, List.length_nil, InR_t, InL_t, z_ix_t, mI_s1, mI_s2, ↓brT, ↓brF, ↓brT', ↓brF', mL_sI, mR_sI, mK_sI, mS_sI, mI_sL, mL_s1, mL_s2, mR_sL, mK_sL, mS_sL, mI_sR, mL_sR, mR_s1, mR_s2, mK_sR, mS_sR, mA_s1, mA_s2, mL_sA, mR_sA, mK_sA, mS_sA, ix_n, ix_a, ix_m, ix_s, z_sw, z_stop, forall_const, true_implies, false_implies, imp_self, implies_true, not_true_eq_false, not_false_eq_true, ne_eq, eq_self, Option.some.injEq, reduceCtorEq, Nat.reduceAdd, Nat.reduceSub, Nat.reduceMul, Nat.reduceEqDiff, Nat.reduceLT, Nat.reduceLeDiff, Int.reduceAdd, Int.reduceMul, Int.reduceSub, Int.reduceNeg, Int.reduceToNat, Int.reduceLT, Int.reduceLE, Int.reduceEq, ↓reduceIte, List.reverse_cons, Option.toList, List.cons_append, List.nil_append, vI_inj, vL_inj, vO_inj, rI, rL, rO, rV, mI_sQ, mL_sQ, mK_sQ, mS_sQ, mQ_s1, mQ_s2, iL_and, iL_or, iL_xor, iL_shl, iL_ushr, iR_and, iR_or, iR_xor, iR_shl, iR_shr, iR_ushr, iR_cmp, yc0, tlX2_packsOf, o_ic, o_land, o_lc, o_lload, o_lor, o_lret, o_lushr]
  try simp +contextual (disch := omega) only [impF, impT, and_true, true_and, implies_true, not_false_eq_true, not_true_eq_false]
  rfl
def vsO (x : Int) (p : Nat) : Int := z_and (y_ushr x (5 * (p : Int))) 31
set_option maxHeartbeats 4000000 in
theorem sp_valuesOf (l : Launch) (G : zG) (h : zH) (x : Int) (p : Nat) (lv : Nat) (hlv : 1 ≤ lv) : z_Sp l G mtX2_valuesOf lv 0 0 [vL x, vI p] (h) (rI (vsO x p) h) := by
  refine x_enter [vL x, vJ, vI p] (by decide +kernel) (by omega) rfl (Nat.le_of_ble_eq_true rfl) ?_
  refine z_run1 tsX2_valuesOf [] 60 ?_
  simp (maxSteps := 1000000) -implicitDefEqProofs +contextual (disch := omega) only [z_wp_t, z_wp_u, ↓pI_e, ↓pL_e, ↓pO_e, ↓pR_e, ↓p1_I, ↓p1_O, z_gl, z_st1, z_st2, z_nl_I, z_nl_O, z_nl_J, z_nl_L, if_true, if_false, ite_true, ite_false, true_and, and_true, List.mem_cons, List.not_mem_nil, or_false, false_or, or_self, List.length_cons, List.length_nil, InR_t, InL_t, z_ix_t, mI_s1, mI_s2, ↓brT, ↓brF, ↓brT', ↓brF', mL_sI, mR_sI, mK_sI, mS_sI, mI_sL, mL_s1, mL_s2, mR_sL, mK_sL, mS_sL, mI_sR, mL_sR, mR_s1, mR_s2, mK_sR, mS_sR, mA_s1, mA_s2, mL_sA, mR_sA, mK_sA, mS_sA, ix_n, ix_a, ix_m, ix_s, z_sw, z_stop, forall_const, true_implies, false_implies, imp_self, implies_true, not_true_eq_false, not_false_eq_true, ne_eq, eq_self, Option.some.injEq, reduceCtorEq, Nat.reduceAdd, Nat.reduceSub, Nat.reduceMul, Nat.reduceEqDiff, Nat.reduceLT, Nat.reduceLeDiff, Int.reduceAdd, Int.reduceMul, Int.reduceSub, Int.reduceNeg, Int.reduceToNat, Int.reduceLT, Int.reduceLE, Int.reduceEq, ↓reduceIte, List.reverse_cons, Option.toList, List.cons_append, List.nil_append, vI_inj, vL_inj, vO_inj, rI, rL, rO, rV, mI_sQ, mL_sQ, mK_sQ, mS_sQ, mQ_s1, mQ_s2, iL_and, iL_or, iL_xor, iL_shl, iL_ushr, iR_and, iR_or, iR_xor, iR_shl, iR_shr, iR_ushr, iR_cmp, yc0, tlX2_valuesOf, o_iand, o_ic, o_iload, o_imul, o_iret, o_l2i, o_lload, o_lushr]
  try simp +contextual (disch := omega) only [impF, impT, and_true, true_and, implies_true, not_false_eq_true, not_true_eq_false]
  rfl
theorem vsO_b (x : Int) {p v : Nat} (hp : p < 8) (hv : v < 32) : tb (vsO x p) v = (decide (v < 5) && lb x (5 * p + v)) := by
  unfold vsO
  rw [tb_and, tb31 v hv]
  by_cases h : v < 5
  · have e : (5 * (p : Int)) = ((5 * p : Nat) : Int) := by omega
    rw [tb_lb hv, e, lb_ushr x (k := 5 * p) (by omega)]
    simp [h]
  · simp [h]
theorem vsO_R (x : Int) {p : Nat} (hp : p < 8) : 0 ≤ vsO x p ∧ vsO x p < 32 := by
  have := tb_small (n := 5) (by omega) (x := vsO x p) (InR_and _ _) (fun i h1 h2 => by rw [vsO_b x hp h2]; simp; omega)
  exact this
theorem z_and0 {a b : Int} : z_and a b = 0 ↔ ∀ i, i < 32 → (tb a i && tb b i) = false := by
  rw [tb_zero (InR_and a b)]
  constructor
  · intro h i hi; rw [← tb_and]; exact h i hi
  · intro h i hi; rw [tb_and]; exact h i hi
theorem lb_not (a : Int) {j : Nat} (hj : j < 64) : lb (y_xor a (-1)) j = !lb a j := by
  rw [lb_xor, lb_m1]
  simp [hj]
theorem tb_not (a : Int) {j : Nat} (hj : j < 32) : tb (z_xor a (-1)) j = !tb a j := by
  rw [tb_xor, tb_m1]
  simp [hj]
def unB (K x : Int) (p : Nat) : Bool := pk (y_and x K) p
def lcN (K KP x : Int) : Nat := 9 * cnt (fun p => !unB K x p) 8 + (cnt (fun p => unB K x p && lb KP (5 * p)) 8 + cnt (fun p => !unB K x p && !lb x (5 * p)) 8)
theorem nch_b (u : Int) {j : Nat} (hj : j < 64) : lb (y_and 35468117025 (y_xor (pkL u) (-1))) j = (decide (j % 5 = 0) && decide (j < 40) && !pk u (j / 5)) := by
  rw [lb_and, lb_not _ hj, lb_abs j hj, pkL_b u hj]
  cases decide (j % 5 = 0) <;> cases decide (j < 40) <;> simp
theorem fiv {i : Nat} (hi : i < 8) : 5 * i < 64 ∧ 5 * i % 5 = 0 ∧ 5 * i < 40 ∧ 5 * i / 5 = i := by omega
set_option maxHeartbeats 4000000 in
theorem sp_leastCost (l : Launch) (G : zG) (h : zH) (z : Nat) (x K KP : Int) (k0 : (gK h z).1 = 2) (hK : gL h z 6 = K) (hKP : gL h z 7 = KP) (lv : Nat) (hlv : 2 ≤ lv) : z_Sp l G mtX2_leastCost lv 0 0 [vR z, vL x] (h) (rI ((lcN K KP x : Nat) : Int) h) := by
  have b1 : ∀ j, j < 64 → lb (y_and (pkL (y_and x K)) KP) j = true → j % 5 = 0 ∧ j < 40 := fun j hj q => by
    rw [lb_and, pkL_b _ hj] at q
    simp at q
    exact q.1.1
  have b2 : ∀ j, j < 64 → lb (y_and 35468117025 (y_xor (pkL (y_and x K)) (-1))) j = true → j % 5 = 0 ∧ j < 40 := fun j hj q => by
    rw [nch_b _ hj] at q
    simp at q
    exact q.1
  have b3 : ∀ j, j < 64 → lb (y_and (y_and 35468117025 (y_xor (pkL (y_and x K)) (-1))) (y_xor x (-1))) j = true → j % 5 = 0 ∧ j < 40 := fun j hj q => by
    rw [lb_and] at q
    simp at q
    exact b2 j hj q.1
  have c1 : cnt (fun i => lb (y_and (pkL (y_and x K)) KP) (5 * i)) 8 = cnt (fun p => unB K x p && lb KP (5 * p)) 8 := cnt_congr fun i hi => by rw [lb_and, pkL_p _ hi]; rfl
  have c2 : cnt (fun i => lb (y_and 35468117025 (y_xor (pkL (y_and x K)) (-1))) (5 * i)) 8 = cnt (fun p => !unB K x p) 8 := cnt_congr fun i hi => by
    obtain ⟨q1, q2, q3, q4⟩ := fiv hi
    rw [nch_b _ q1, q2, q4]; simp [q3, unB]
  have c3 : cnt (fun i => lb (y_and (y_and 35468117025 (y_xor (pkL (y_and x K)) (-1))) (y_xor x (-1))) (5 * i)) 8 = cnt (fun p => !unB K x p && !lb x (5 * p)) 8 := cnt_congr fun i hi => by
    obtain ⟨q1, q2, q3, q4⟩ := fiv hi
    rw [lb_and, nch_b _ q1, lb_not _ q1, q2, q4]; simp [q3, unB]
  refine x_enter [vR z, vL x, vJ, vJ, vJ, vJ, vJ, vJ] (by decide +kernel) (by omega) rfl (Nat.le_of_ble_eq_true rfl) ?_
  refine z_run1 tsX2_leastCost [] 20 ?_
  simp (maxSteps := 1000000) -implicitDefEqProofs +contextual (disch := omega) only [z_wp_t, z_wp_u, ↓pI_e, ↓pL_e, ↓pO_e, ↓pR_e, ↓p1_I, ↓p1_O, z_gl, z_st1, z_st2, z_nl_I, z_nl_O, z_nl_J, z_nl_L, if_true, if_false, ite_true, ite_false, true_and, and_true, List.mem_cons, List.not_mem_nil, or_false, false_or, or_self, List.length_cons, List.length_nil, InR_t, InL_t, z_ix_t, mI_s1, mI_s2, ↓brT, ↓brF, ↓brT', ↓brF', mL_sI, mR_sI, mK_sI, mS_sI, mI_sL, mL_s1, mL_s2, mR_sL, mK_sL, mS_sL, mI_sR, mL_sR, mR_s1, mR_s2, mK_sR, mS_sR, mA_s1, mA_s2, mL_sA, mR_sA, mK_sA, mS_sA, ix_n, ix_a, ix_m, ix_s, z_sw, z_stop, forall_const, true_implies, false_implies, imp_self, implies_true, not_true_eq_false, not_false_eq_true, ne_eq, eq_self, Option.some.injEq, reduceCtorEq, Nat.reduceAdd, Nat.reduceSub, Nat.reduceMul, Nat.reduceEqDiff, Nat.reduceLT, Nat.reduceLeDiff, Int.reduceAdd, Int.reduceMul, Int.reduceSub, Int.reduceNeg, Int.reduceToNat, Int.reduceLT, Int.reduceLE, Int.reduceEq, ↓reduceIte, List.reverse_cons, Option.toList, List.cons_append, List.nil_append, vI_inj, vL_inj, vO_inj, rI, rL, rO, rV, mI_sQ, mL_sQ, mK_sQ, mS_sQ, mQ_s1, mQ_s2, iL_and, iL_or, iL_xor, iL_shl, iL_ushr, iR_and, iR_or, iR_xor, iR_shl, iR_shr, iR_ushr, iR_cmp, yc0, tlX2_leastCost, tkX2_leastCost, o_aload, o_getL, o_iadd, o_ic, o_iload, o_imul, o_iret, o_istore, o_land, o_lc, o_lload, o_lstore, o_lxor, k0, hK]
  try simp +contextual (disch := omega) only [impF, impT, and_true, true_and, implies_true, not_false_eq_true, not_true_eq_false]
  refine x_callS (by decide +kernel) cv_X2_110 (sp_packsOf l G _ (y_and x K) 1 (by omega)) (by omega) rfl (by omega) (by omega) rfl (Nat.le_of_ble_eq_true rfl) ?_
  rintro r h' ⟨rfl, rfl⟩
  refine z_run1 tsX2_leastCost [] 30 ?_
  simp (maxSteps := 1000000) -implicitDefEqProofs +contextual (disch := omega) only [z_wp_t, z_wp_u, ↓pI_e, ↓pL_e, ↓pO_e, ↓pR_e, ↓p1_I, ↓p1_O, z_gl, z_st1, z_st2, z_nl_I, z_nl_O, z_nl_J, z_nl_L, if_true, if_false, ite_true, ite_false, true_and, and_true, List.mem_cons, List.not_mem_nil, or_false, false_or, or_self, List.length_cons, List.length_nil, InR_t, InL_t, z_ix_t, mI_s1, mI_s2, ↓brT, ↓brF, ↓brT', ↓brF', mL_sI, mR_sI, mK_sI, mS_sI, mI_sL, mL_s1, mL_s2, mR_sL, mK_sL, mS_sL, mI_sR, mL_sR, mR_s1, mR_s2, mK_sR, mS_sR, mA_s1, mA_s2, mL_sA, mR_sA, mK_sA, mS_sA, ix_n, ix_a, ix_m, ix_s, z_sw, z_stop, forall_const, true_implies, false_implies, imp_self, implies_true, not_true_eq_false, not_false_eq_true, ne_eq, eq_self, Option.some.injEq, reduceCtorEq, Nat.reduceAdd, Nat.reduceSub, Nat.reduceMul, Nat.reduceEqDiff, Nat.reduceLT, Nat.reduceLeDiff, Int.reduceAdd, Int.reduceMul, Int.reduceSub, Int.reduceNeg, Int.reduceToNat, Int.reduceLT, Int.reduceLE, Int.reduceEq, ↓reduceIte, List.reverse_cons, Option.toList, List.cons_append, List.nil_append, vI_inj, vL_inj, vO_inj, rI, rL, rO, rV, mI_sQ, mL_sQ, mK_sQ, mS_sQ, mQ_s1, mQ_s2, iL_and, iL_or, iL_xor, iL_shl, iL_ushr, iR_and, iR_or, iR_xor, iR_shl, iR_shr, iR_ushr, iR_cmp, yc0, tlX2_leastCost, tkX2_leastCost, o_aload, o_getL, o_iadd, o_ic, o_iload, o_imul, o_iret, o_istore, o_land, o_lc, o_lload, o_lstore, o_lxor, k0, hKP]
  try simp +contextual (disch := omega) only [impF, impT, and_true, true_and, implies_true, not_false_eq_true, not_true_eq_false]
  refine x_callS (by decide +kernel) cv_X2_135 (sp_bcL8 l G _ _ (InL_and _ _) b1 1 (by omega)) (by omega) rfl (by omega) (by omega) rfl (Nat.le_of_ble_eq_true rfl) ?_
  rintro r h' ⟨rfl, rfl⟩
  refine z_run1 tsX2_leastCost [] 30 ?_
  simp (maxSteps := 1000000) -implicitDefEqProofs +contextual (disch := omega) only [z_wp_t, z_wp_u, ↓pI_e, ↓pL_e, ↓pO_e, ↓pR_e, ↓p1_I, ↓p1_O, z_gl, z_st1, z_st2, z_nl_I, z_nl_O, z_nl_J, z_nl_L, if_true, if_false, ite_true, ite_false, true_and, and_true, List.mem_cons, List.not_mem_nil, or_false, false_or, or_self, List.length_cons, List.length_nil, InR_t, InL_t, z_ix_t, mI_s1, mI_s2, ↓brT, ↓brF, ↓brT', ↓brF', mL_sI, mR_sI, mK_sI, mS_sI, mI_sL, mL_s1, mL_s2, mR_sL, mK_sL, mS_sL, mI_sR, mL_sR, mR_s1, mR_s2, mK_sR, mS_sR, mA_s1, mA_s2, mL_sA, mR_sA, mK_sA, mS_sA, ix_n, ix_a, ix_m, ix_s, z_sw, z_stop, forall_const, true_implies, false_implies, imp_self, implies_true, not_true_eq_false, not_false_eq_true, ne_eq, eq_self, Option.some.injEq, reduceCtorEq, Nat.reduceAdd, Nat.reduceSub, Nat.reduceMul, Nat.reduceEqDiff, Nat.reduceLT, Nat.reduceLeDiff, Int.reduceAdd, Int.reduceMul, Int.reduceSub, Int.reduceNeg, Int.reduceToNat, Int.reduceLT, Int.reduceLE, Int.reduceEq, ↓reduceIte, List.reverse_cons, Option.toList, List.cons_append, List.nil_append, vI_inj, vL_inj, vO_inj, rI, rL, rO, rV, mI_sQ, mL_sQ, mK_sQ, mS_sQ, mQ_s1, mQ_s2, iL_and, iL_or, iL_xor, iL_shl, iL_ushr, iR_and, iR_or, iR_xor, iR_shl, iR_shr, iR_ushr, iR_cmp, yc0, tlX2_leastCost, tkX2_leastCost, o_aload, o_getL, o_iadd, o_ic, o_iload, o_imul, o_iret, o_istore, o_land, o_lc, o_lload, o_lstore, o_lxor, k0]
  try simp +contextual (disch := omega) only [impF, impT, and_true, true_and, implies_true, not_false_eq_true, not_true_eq_false]
  refine x_callS (by decide +kernel) cv_X2_135 (sp_bcL8 l G _ _ (InL_and _ _) b3 1 (by omega)) (by omega) rfl (by omega) (by omega) rfl (Nat.le_of_ble_eq_true rfl) ?_
  rintro r h' ⟨rfl, rfl⟩
  refine z_run1 tsX2_leastCost [] 30 ?_
  simp (maxSteps := 1000000) -implicitDefEqProofs +contextual (disch := omega) only [z_wp_t, z_wp_u, ↓pI_e, ↓pL_e, ↓pO_e, ↓pR_e, ↓p1_I, ↓p1_O, z_gl, z_st1, z_st2, z_nl_I, z_nl_O, z_nl_J, z_nl_L, if_true, if_false, ite_true, ite_false, true_and, and_true, List.mem_cons, List.not_mem_nil, or_false, false_or, or_self, List.length_cons, List.length_nil, InR_t, InL_t, z_ix_t, mI_s1, mI_s2, ↓brT, ↓brF, ↓brT', ↓brF', mL_sI, mR_sI, mK_sI, mS_sI, mI_sL, mL_s1, mL_s2, mR_sL, mK_sL, mS_sL, mI_sR, mL_sR, mR_s1, mR_s2, mK_sR, mS_sR, mA_s1, mA_s2, mL_sA, mR_sA, mK_sA, mS_sA, ix_n, ix_a, ix_m, ix_s, z_sw, z_stop, forall_const, true_implies, false_implies, imp_self, implies_true, not_true_eq_false, not_false_eq_true, ne_eq, eq_self, Option.some.injEq, reduceCtorEq, Nat.reduceAdd, Nat.reduceSub, Nat.reduceMul, Nat.reduceEqDiff, Nat.reduceLT, Nat.reduceLeDiff, Int.reduceAdd, Int.reduceMul, Int.reduceSub, Int.reduceNeg, Int.reduceToNat, Int.reduceLT, Int.reduceLE, Int.reduceEq, ↓reduceIte, List.reverse_cons, Option.toList, List.cons_append, List.nil_append, vI_inj, vL_inj, vO_inj, rI, rL, rO, rV, mI_sQ, mL_sQ, mK_sQ, mS_sQ, mQ_s1, mQ_s2, iL_and, iL_or, iL_xor, iL_shl, iL_ushr, iR_and, iR_or, iR_xor, iR_shl, iR_shr, iR_ushr, iR_cmp, yc0, tlX2_leastCost, tkX2_leastCost, o_aload, o_getL, o_iadd, o_ic, o_iload, o_imul, o_iret, o_istore, o_land, o_lc, o_lload, o_lstore, o_lxor, k0]
  try simp +contextual (disch := omega) only [impF, impT, and_true, true_and, implies_true, not_false_eq_true, not_true_eq_false]
  refine x_callS (by decide +kernel) cv_X2_135 (sp_bcL8 l G _ _ (InL_and _ _) b2 1 (by omega)) (by omega) rfl (by omega) (by omega) rfl (Nat.le_of_ble_eq_true rfl) ?_
  rintro r h' ⟨rfl, rfl⟩
  rw [c1, c2, c3]
  refine z_run1 tsX2_leastCost [] 30 ?_
  simp (maxSteps := 1000000) -implicitDefEqProofs +contextual (disch := omega) only [z_wp_t, z_wp_u, ↓pI_e, ↓pL_e, ↓pO_e, ↓pR_e, ↓p1_I, ↓p1_O, z_gl, z_st1, z_st2, z_nl_I, z_nl_O, z_nl_J, z_nl_L, if_true, if_false, ite_true, ite_false, true_and, and_true, List.mem_cons, List.not_mem_nil, or_false, false_or, or_self, List.length_cons, List.length_nil, InR_t, InL_t, z_ix_t, mI_s1, mI_s2, ↓brT, ↓brF, ↓brT', ↓brF', mL_sI, mR_sI, mK_sI, mS_sI, mI_sL, mL_s1, mL_s2, mR_sL, mK_sL, mS_sL, mI_sR, mL_sR, mR_s1, mR_s2, mK_sR, mS_sR, mA_s1, mA_s2, mL_sA, mR_sA, mK_sA, mS_sA, ix_n, ix_a, ix_m, ix_s, z_sw, z_stop, forall_const, true_implies, false_implies, imp_self, implies_true, not_true_eq_false, not_false_eq_true, ne_eq, eq_self, Option.some.injEq, reduceCtorEq, Nat.reduceAdd, Nat.reduceSub, Nat.reduceMul, Nat.reduceEqDiff, Nat.reduceLT, Nat.reduceLeDiff, Int.reduceAdd, Int.reduceMul, Int.reduceSub, Int.reduceNeg, Int.reduceToNat, Int.reduceLT, Int.reduceLE, Int.reduceEq, ↓reduceIte, List.reverse_cons, Option.toList, List.cons_append, List.nil_append, vI_inj, vL_inj, vO_inj, rI, rL, rO, rV, mI_sQ, mL_sQ, mK_sQ, mS_sQ, mQ_s1, mQ_s2, iL_and, iL_or, iL_xor, iL_shl, iL_ushr, iR_and, iR_or, iR_xor, iR_shl, iR_shr, iR_ushr, iR_cmp, yc0, tlX2_leastCost, tkX2_leastCost, o_aload, o_getL, o_iadd, o_ic, o_iload, o_imul, o_iret, o_istore, o_land, o_lc, o_lload, o_lstore, o_lxor, k0]
  try simp +contextual (disch := omega) only [impF, impT, and_true, true_and, implies_true, not_false_eq_true, not_true_eq_false]
  unfold lcN
  omega
set_option maxHeartbeats 4000000 in
theorem sp_changesOf (l : Launch) (G : zG) (h : zH) (z : Nat) (x K : Int) (k0 : (gK h z).1 = 2) (hK : gL h z 6 = K) (lv : Nat) (hlv : 2 ≤ lv) : z_Sp l G mtX2_changesOf lv 0 0 [vR z, vL x] (h) (rI ((cnt (fun p => !unB K x p) 8 : Nat) : Int) h) := by
  have b2 : ∀ j, j < 64 → lb (y_and 35468117025 (y_xor (pkL (y_and x K)) (-1))) j = true → j % 5 = 0 ∧ j < 40 := fun j hj q => by
    rw [nch_b _ hj] at q
    simp at q
    exact q.1
  have c2 : cnt (fun i => lb (y_and 35468117025 (y_xor (pkL (y_and x K)) (-1))) (5 * i)) 8 = cnt (fun p => !unB K x p) 8 := cnt_congr fun i hi => by
    obtain ⟨q1, q2, q3, q4⟩ := fiv hi
    rw [nch_b _ q1, q2, q4]; simp [q3, unB]
  refine x_enter [vR z, vL x, vJ] (by decide +kernel) (by omega) rfl (Nat.le_of_ble_eq_true rfl) ?_
  refine z_run1 tsX2_changesOf [] 20 ?_
  simp (maxSteps := 1000000) -implicitDefEqProofs +contextual (disch := omega) only [z_wp_t, z_wp_u, ↓pI_e, ↓pL_e, ↓pO_e, ↓pR_e, ↓p1_I, ↓p1_O, z_gl, z_st1, z_st2, z_nl_I, z_nl_O, z_nl_J, z_nl_L, if_true, if_false, ite_true, ite_false, true_and, and_true, List.mem_cons, List.not_mem_nil, or_false, false_or, or_self, List.length_cons, List.length_nil, InR_t, InL_t, z_ix_t, mI_s1, mI_s2, ↓brT, ↓brF, ↓brT', ↓brF', mL_sI, mR_sI, mK_sI, mS_sI, mI_sL, mL_s1, mL_s2, mR_sL, mK_sL, mS_sL, mI_sR, mL_sR, mR_s1, mR_s2, mK_sR, mS_sR, mA_s1, mA_s2, mL_sA, mR_sA, mK_sA, mS_sA, ix_n, ix_a, ix_m, ix_s, z_sw, z_stop, forall_const, true_implies, false_implies, imp_self, implies_true, not_true_eq_false, not_false_eq_true, ne_eq, eq_self, Option.some.injEq, reduceCtorEq, Nat.reduceAdd, Nat.reduceSub, Nat.reduceMul, Nat.reduceEqDiff, Nat.reduceLT, Nat.reduceLeDiff, Int.reduceAdd, Int.reduceMul, Int.reduceSub, Int.reduceNeg, Int.reduceToNat, Int.reduceLT, Int.reduceLE, Int.reduceEq, ↓reduceIte, List.reverse_cons, Option.toList, List.cons_append, List.nil_append, vI_inj, vL_inj, vO_inj, rI, rL, rO, rV, mI_sQ, mL_sQ, mK_sQ, mS_sQ, mQ_s1, mQ_s2, iL_and, iL_or, iL_xor, iL_shl, iL_ushr, iR_and, iR_or, iR_xor, iR_shl, iR_shr, iR_ushr, iR_cmp, yc0, tlX2_changesOf, tkX2_changesOf, o_aload, o_getL, o_iret, o_land, o_lc, o_lload, o_lxor, k0, hK]
  try simp +contextual (disch := omega) only [impF, impT, and_true, true_and, implies_true, not_false_eq_true, not_true_eq_false]
  refine x_callS (by decide +kernel) cv_X2_110 (sp_packsOf l G _ (y_and x K) 1 (by omega)) (by omega) rfl (by omega) (by omega) rfl (Nat.le_of_ble_eq_true rfl) ?_
  rintro r h' ⟨rfl, rfl⟩
  refine z_run1 tsX2_changesOf [] 30 ?_
  simp (maxSteps := 1000000) -implicitDefEqProofs +contextual (disch := omega) only [z_wp_t, z_wp_u, ↓pI_e, ↓pL_e, ↓pO_e, ↓pR_e, ↓p1_I, ↓p1_O, z_gl, z_st1, z_st2, z_nl_I, z_nl_O, z_nl_J, z_nl_L, if_true, if_false, ite_true, ite_false, true_and, and_true, List.mem_cons, List.not_mem_nil, or_false, false_or, or_self, List.length_cons, List.length_nil, InR_t, InL_t, z_ix_t, mI_s1, mI_s2, ↓brT, ↓brF, ↓brT', ↓brF', mL_sI, mR_sI, mK_sI, mS_sI, mI_sL, mL_s1, mL_s2, mR_sL, mK_sL, mS_sL, mI_sR, mL_sR, mR_s1, mR_s2, mK_sR, mS_sR, mA_s1, mA_s2, mL_sA, mR_sA, mK_sA, mS_sA, ix_n, ix_a, ix_m, ix_s, z_sw, z_stop, forall_const, true_implies, false_implies, imp_self, implies_true, not_true_eq_false, not_false_eq_true, ne_eq, eq_self, Option.some.injEq, reduceCtorEq, Nat.reduceAdd, Nat.reduceSub, Nat.reduceMul, Nat.reduceEqDiff, Nat.reduceLT, Nat.reduceLeDiff, Int.reduceAdd, Int.reduceMul, Int.reduceSub, Int.reduceNeg, Int.reduceToNat, Int.reduceLT, Int.reduceLE, Int.reduceEq, ↓reduceIte, List.reverse_cons, Option.toList, List.cons_append, List.nil_append, vI_inj, vL_inj, vO_inj, rI, rL, rO, rV, mI_sQ, mL_sQ, mK_sQ, mS_sQ, mQ_s1, mQ_s2, iL_and, iL_or, iL_xor, iL_shl, iL_ushr, iR_and, iR_or, iR_xor, iR_shl, iR_shr, iR_ushr, iR_cmp, yc0, tlX2_changesOf, tkX2_changesOf, o_aload, o_getL, o_iret, o_land, o_lc, o_lload, o_lxor, k0]
  try simp +contextual (disch := omega) only [impF, impT, and_true, true_and, implies_true, not_false_eq_true, not_true_eq_false]
  refine x_callS (by decide +kernel) cv_X2_135 (sp_bcL8 l G _ _ (InL_and _ _) b2 1 (by omega)) (by omega) rfl (by omega) (by omega) rfl (Nat.le_of_ble_eq_true rfl) ?_
  rintro r h' ⟨rfl, rfl⟩
  rw [c2]
  refine z_run1 tsX2_changesOf [] 30 ?_
  simp (maxSteps := 1000000) -implicitDefEqProofs +contextual (disch := omega) only [z_wp_t, z_wp_u, ↓pI_e, ↓pL_e, ↓pO_e, ↓pR_e, ↓p1_I, ↓p1_O, z_gl, z_st1, z_st2, z_nl_I, z_nl_O, z_nl_J, z_nl_L, if_true, if_false, ite_true, ite_false, true_and, and_true, List.mem_cons, List.not_mem_nil, or_false, false_or, or_self, List.length_cons, List.length_nil, InR_t, InL_t, z_ix_t, mI_s1, mI_s2, ↓brT, ↓brF, ↓brT', ↓brF', mL_sI, mR_sI, mK_sI, mS_sI, mI_sL, mL_s1, mL_s2, mR_sL, mK_sL, mS_sL, mI_sR, mL_sR, mR_s1, mR_s2, mK_sR, mS_sR, mA_s1, mA_s2, mL_sA, mR_sA, mK_sA, mS_sA, ix_n, ix_a, ix_m, ix_s, z_sw, z_stop, forall_const, true_implies, false_implies, imp_self, implies_true, not_true_eq_false, not_false_eq_true, ne_eq, eq_self, Option.some.injEq, reduceCtorEq, Nat.reduceAdd, Nat.reduceSub, Nat.reduceMul, Nat.reduceEqDiff, Nat.reduceLT, Nat.reduceLeDiff, Int.reduceAdd, Int.reduceMul, Int.reduceSub, Int.reduceNeg, Int.reduceToNat, Int.reduceLT, Int.reduceLE, Int.reduceEq, ↓reduceIte, List.reverse_cons, Option.toList, List.cons_append, List.nil_append, vI_inj, vL_inj, vO_inj, rI, rL, rO, rV, mI_sQ, mL_sQ, mK_sQ, mS_sQ, mQ_s1, mQ_s2, iL_and, iL_or, iL_xor, iL_shl, iL_ushr, iR_and, iR_or, iR_xor, iR_shl, iR_shr, iR_ushr, iR_cmp, yc0, tlX2_changesOf, tkX2_changesOf, o_aload, o_getL, o_iret, o_land, o_lc, o_lload, o_lxor, k0]
  try simp +contextual (disch := omega) only [impF, impT, and_true, true_and, implies_true, not_false_eq_true, not_true_eq_false]
set_option maxHeartbeats 4000000 in
theorem sp_presentOf (l : Launch) (G : zG) (h : zH) (z : Nat) (x : Int) (lv : Nat) (hlv : 2 ≤ lv) : z_Sp l G mtX2_presentOf lv 0 0 [vR z, vL x] (h) (rI ((cnt (fun p => !lb x (5 * p)) 8 : Nat) : Int) h) := by
  have b2 : ∀ j, j < 64 → lb (y_and 35468117025 (y_xor x (-1))) j = true → j % 5 = 0 ∧ j < 40 := fun j hj q => by
    rw [lb_and, lb_abs j hj] at q
    simp at q
    exact q.1
  have c2 : cnt (fun i => lb (y_and 35468117025 (y_xor x (-1))) (5 * i)) 8 = cnt (fun p => !lb x (5 * p)) 8 := cnt_congr fun i hi => by
    obtain ⟨q1, q2, q3, q4⟩ := fiv hi
    rw [lb_and, lb_abs _ q1, lb_not _ q1, q2]; simp [q3]
  refine x_enter [vR z, vL x, vJ] (by decide +kernel) (by omega) rfl (Nat.le_of_ble_eq_true rfl) ?_
  refine z_run1 tsX2_presentOf [] 20 ?_
  simp (maxSteps := 1000000) -implicitDefEqProofs +contextual (disch := omega) only [z_wp_t, z_wp_u, ↓pI_e, ↓pL_e, ↓pO_e, ↓pR_e, ↓p1_I, ↓p1_O, z_gl, z_st1, z_st2, z_nl_I, z_nl_O, z_nl_J, z_nl_L, if_true, if_false, ite_true, ite_false, true_and, and_true, List.mem_cons, List.not_mem_nil, or_false, false_or, or_self, List.length_cons, List.length_nil, InR_t, InL_t, z_ix_t, mI_s1, mI_s2, ↓brT, ↓brF, ↓brT', ↓brF', mL_sI, mR_sI, mK_sI, mS_sI, mI_sL, mL_s1, mL_s2, mR_sL, mK_sL, mS_sL, mI_sR, mL_sR, mR_s1, mR_s2, mK_sR, mS_sR, mA_s1, mA_s2, mL_sA, mR_sA, mK_sA, mS_sA, ix_n, ix_a, ix_m, ix_s, z_sw, z_stop, forall_const, true_implies, false_implies, imp_self, implies_true, not_true_eq_false, not_false_eq_true, ne_eq, eq_self, Option.some.injEq, reduceCtorEq, Nat.reduceAdd, Nat.reduceSub, Nat.reduceMul, Nat.reduceEqDiff, Nat.reduceLT, Nat.reduceLeDiff, Int.reduceAdd, Int.reduceMul, Int.reduceSub, Int.reduceNeg, Int.reduceToNat, Int.reduceLT, Int.reduceLE, Int.reduceEq, ↓reduceIte, List.reverse_cons, Option.toList, List.cons_append, List.nil_append, vI_inj, vL_inj, vO_inj, rI, rL, rO, rV, mI_sQ, mL_sQ, mK_sQ, mS_sQ, mQ_s1, mQ_s2, iL_and, iL_or, iL_xor, iL_shl, iL_ushr, iR_and, iR_or, iR_xor, iR_shl, iR_shr, iR_ushr, iR_cmp, yc0, tlX2_presentOf, tkX2_presentOf, o_iret, o_land, o_lc, o_lload, o_lxor]
  try simp +contextual (disch := omega) only [impF, impT, and_true, true_and, implies_true, not_false_eq_true, not_true_eq_false]
  refine x_callS (by decide +kernel) cv_X2_135 (sp_bcL8 l G _ _ (InL_and _ _) b2 1 (by omega)) (by omega) rfl (by omega) (by omega) rfl (Nat.le_of_ble_eq_true rfl) ?_
  rintro r h' ⟨rfl, rfl⟩
  rw [c2]
  refine z_run1 tsX2_presentOf [] 30 ?_
  simp (maxSteps := 1000000) -implicitDefEqProofs +contextual (disch := omega) only [z_wp_t, z_wp_u, ↓pI_e, ↓pL_e, ↓pO_e, ↓pR_e, ↓p1_I, ↓p1_O, z_gl, z_st1, z_st2, z_nl_I, z_nl_O, z_nl_J, z_nl_L, if_true, if_false, ite_true, ite_false, true_and, and_true, List.mem_cons, List.not_mem_nil, or_false, false_or, or_self, List.length_cons, List.length_nil, InR_t, InL_t, z_ix_t, mI_s1, mI_s2, ↓brT, ↓brF, ↓brT', ↓brF', mL_sI, mR_sI, mK_sI, mS_sI, mI_sL, mL_s1, mL_s2, mR_sL, mK_sL, mS_sL, mI_sR, mL_sR, mR_s1, mR_s2, mK_sR, mS_sR, mA_s1, mA_s2, mL_sA, mR_sA, mK_sA, mS_sA, ix_n, ix_a, ix_m, ix_s, z_sw, z_stop, forall_const, true_implies, false_implies, imp_self, implies_true, not_true_eq_false, not_false_eq_true, ne_eq, eq_self, Option.some.injEq, reduceCtorEq, Nat.reduceAdd, Nat.reduceSub, Nat.reduceMul, Nat.reduceEqDiff, Nat.reduceLT, Nat.reduceLeDiff, Int.reduceAdd, Int.reduceMul, Int.reduceSub, Int.reduceNeg, Int.reduceToNat, Int.reduceLT, Int.reduceLE, Int.reduceEq, ↓reduceIte, List.reverse_cons, Option.toList, List.cons_append, List.nil_append, vI_inj, vL_inj, vO_inj, rI, rL, rO, rV, mI_sQ, mL_sQ, mK_sQ, mS_sQ, mQ_s1, mQ_s2, iL_and, iL_or, iL_xor, iL_shl, iL_ushr, iR_and, iR_or, iR_xor, iR_shl, iR_shr, iR_ushr, iR_cmp, yc0, tlX2_presentOf, tkX2_presentOf, o_iret, o_land, o_lc, o_lload, o_lxor]
  try simp +contextual (disch := omega) only [impF, impT, and_true, true_and, implies_true, not_false_eq_true, not_true_eq_false]
/-! what a set of spots costs at least -/
def Enc (x : Int) (s : Nat → Nat) : Prop := InL x ∧ (∀ p v, p < 8 → v < 5 → lb x (5 * p + v) = decide (v = s p)) ∧ ∀ j, 40 ≤ j → lb x j = false
def Lf (x : Int) (t : Nat → Nat) : Prop := ∀ p, p < 8 → lb x (5 * p + t p) = true
def KpOK (A : zA) (K KP : Int) : Prop := (∀ p v, p < 8 → v < 5 → lb K (5 * p + v) = decide (v ≤ aN A p ∧ verA A p v = aL A p)) ∧ ∀ p, p < 8 → (lb KP (5 * p) = true ↔ ∃ v, 1 ≤ v ∧ v ≤ aN A p ∧ verA A p v = aL A p)
theorem unB_iff {A : zA} {K KP x : Int} (hK : KpOK A K KP) {p : Nat} (hp : p < 8) : unB K x p = true ↔ ∃ v, v < 5 ∧ lb x (5 * p + v) = true ∧ v ≤ aN A p ∧ verA A p v = aL A p := by
  unfold unB
  rw [pk_iff]
  constructor
  · rintro ⟨v, h1, h2⟩
    rw [lb_and, hK.1 p v hp h1] at h2
    simp at h2
    exact ⟨v, h1, h2⟩
  · rintro ⟨v, h1, h2, h3⟩
    refine ⟨v, h1, ?_⟩
    rw [lb_and, hK.1 p v hp h1, h2]
    simp [h3]
def bn (b : Bool) : Nat := if b then 1 else 0
theorem cnt5_le {a b c d e : Nat → Bool} : ∀ {n : Nat}, (∀ p, p < n → 9 * bn (a p) + (bn (b p) + bn (c p)) ≤ 9 * bn (d p) + bn (e p)) → 9 * cnt a n + (cnt b n + cnt c n) ≤ 9 * cnt d n + cnt e n
  | 0, _ => by simp [cnt]
  | n + 1, h => by
    have h1 := cnt5_le (n := n) (fun p hp => h p (by omega))
    have h2 := h n (by omega)
    unfold bn at h2
    simp only [cnt]
    omega
theorem ver_ne {A : zA} (hA : AOK A) {p v : Nat} (hp : p < 8) (h1 : 1 ≤ v) (h2 : v ≤ aN A p) : 0 ≤ verA A p v := by
  unfold verA
  rw [if_neg (by omega)]
  exact (hA.2.1 p (v - 1) hp (by omega)).1
theorem lc_pt {A : zA} {K KP x : Int} {t : Nat → Nat} (hA : AOK A) (hK : KpOK A K KP) (hx : ∀ p v, p < 8 → v < 5 → lb x (5 * p + v) = true → v ≤ aN A p) (ht : Lf x t) (h4 : ∀ p, p < 8 → t p ≤ 4) {p : Nat} (hp : p < 8) : 9 * bn (!unB K x p) + (bn (unB K x p && lb KP (5 * p)) + bn (!unB K x p && !lb x (5 * p))) ≤ 9 * bn (chB A t p) + bn (prB t p) := by
  have hb := ht p hp
  have h5 := h4 p hp
  have hn := hx p (t p) hp (by omega) hb
  cases hu : unB K x p
  · have hd : chB A t p = true := by
      unfold chB
      rw [decide_eq_true_eq]
      intro q
      have := (unB_iff (x := x) hK hp).mpr ⟨t p, by omega, hb, hn, q⟩
      rw [hu] at this
      cases this
    rw [hd]
    cases h0 : lb x (5 * p)
    · have : prB t p = true := by
        unfold prB
        rw [decide_eq_true_eq]
        intro q
        rw [q, Nat.add_zero, h0] at hb
        cases hb
      rw [this]
      simp [bn]
    · simp [bn]
  · cases hd : chB A t p
    · have he : verA A p (t p) = aL A p := by
        unfold chB at hd
        simpa using hd
      cases hk : lb KP (5 * p)
      · simp [bn]
      · obtain ⟨v, q1, q2, q3⟩ := (hK.2 p hp).mp hk
        have := ver_ne hA hp q1 q2
        have : prB t p = true := by
          unfold prB
          rw [decide_eq_true_eq]
          intro q
          rw [q] at he
          unfold verA at he
          rw [if_pos rfl] at he
          omega
        rw [this]
        simp [bn]
    · unfold bn
      cases lb KP (5 * p) <;> simp <;> split <;> omega
theorem lc_le {A : zA} {K KP x : Int} {t : Nat → Nat} (hA : AOK A) (hK : KpOK A K KP) (hx : ∀ p v, p < 8 → v < 5 → lb x (5 * p + v) = true → v ≤ aN A p) (ht : Lf x t) (h4 : ∀ p, p < 8 → t p ≤ 4) : lcN K KP x ≤ cost A t := cnt5_le (fun _ hp => lc_pt hA hK hx ht h4 hp)
theorem en_un {A : zA} {K KP x : Int} {t : Nat → Nat} (hK : KpOK A K KP) (he : Enc x t) (hn : ∀ p, p < 8 → t p ≤ aN A p) (h4 : ∀ p, p < 8 → t p ≤ 4) {p : Nat} (hp : p < 8) : unB K x p = !chB A t p := by
  have h5 := h4 p hp
  cases hd : chB A t p
  · have hq : verA A p (t p) = aL A p := by
      unfold chB at hd
      simpa using hd
    exact (unB_iff (x := x) hK hp).mpr ⟨t p, by omega, by rw [he.2.1 p _ hp (by omega)]; simp, hn p hp, hq⟩
  · cases hu : unB K x p
    · rfl
    · obtain ⟨v, q1, q2, q3, q4⟩ := (unB_iff (x := x) hK hp).mp hu
      rw [he.2.1 p v hp q1] at q2
      simp at q2
      unfold chB at hd
      simp at hd
      rw [q2] at q4
      exact absurd q4 hd
theorem en_pr {x : Int} {t : Nat → Nat} (he : Enc x t) {p : Nat} (hp : p < 8) : (!lb x (5 * p)) = prB t p := by
  have := he.2.1 p 0 hp (by omega)
  rw [Nat.add_zero] at this
  rw [this]
  unfold prB
  by_cases q : t p = 0
  · simp [q]
  · simp [q]; omega
/-- one selection: just what it costs -/
theorem lc_eq {A : zA} {K KP x : Int} {t : Nat → Nat} (hA : AOK A) (hK : KpOK A K KP) (he : Enc x t) (hn : ∀ p, p < 8 → t p ≤ aN A p) (h4 : ∀ p, p < 8 → t p ≤ 4) : lcN K KP x = cost A t := by
  refine Nat.le_antisymm (lc_le hA hK (fun p v hp hv q => ?_) (fun p hp => ?_) h4) ?_
  · rw [he.2.1 p v hp hv] at q
    simp at q
    rw [q]
    exact hn p hp
  · have := h4 p hp
    rw [he.2.1 p _ hp (by omega)]
    simp
  · have z0 : cnt (fun _ => false) 8 = 0 := rfl
    have key : 9 * cnt (chB A t) 8 + (cnt (prB t) 8 + cnt (fun _ => false) 8) ≤ 9 * cnt (fun p => !unB K x p) 8 + cnt (fun p => (unB K x p && lb KP (5 * p)) || (!unB K x p && !lb x (5 * p))) 8 := by
      refine cnt5_le fun p hp => ?_
      rw [en_un hK he hn h4 hp]
      have e1 := en_pr he hp
      rw [← e1]
      cases hd : chB A t p
      · have hq : verA A p (t p) = aL A p := by
          unfold chB at hd
          simpa using hd
        cases h0 : lb x (5 * p)
        · rw [h0] at e1
          have : t p ≠ 0 := by
            have := e1.symm
            unfold prB at this
            simpa using this
          have : lb KP (5 * p) = true := (hK.2 p hp).mpr ⟨t p, by omega, hn p hp, hq⟩
          simp [bn, this]
        · simp [bn]
      · cases lb x (5 * p) <;> simp [bn]
    have split : ∀ n, cnt (fun p => (unB K x p && lb KP (5 * p)) || (!unB K x p && !lb x (5 * p))) n = cnt (fun p => unB K x p && lb KP (5 * p)) n + cnt (fun p => !unB K x p && !lb x (5 * p)) n := by
      intro n
      induction n with
      | zero => rfl
      | succ n ih =>
        simp only [cnt, ih]
        rcases Bool.eq_false_or_eq_true (unB K x n) with q1 | q1 <;> rcases Bool.eq_false_or_eq_true (lb KP (5 * n)) with q2 | q2 <;> rcases Bool.eq_false_or_eq_true (lb x (5 * n)) with q3 | q3 <;> simp [q1, q2, q3] <;> omega
    rw [split] at key
    unfold lcN cost
    omega
