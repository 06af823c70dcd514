/-! Puzzle.load: a state as bits -/
theorem fIx_some {f : Nat → Int} {v : Int} : ∀ {n i : Nat} {k : Int}, fIx f v n i = k → k ≠ -1 → (i : Int) ≤ k ∧ k < i + n ∧ f k.toNat = v
  | 0, i, k, h, hk => by simp [fIx] at h; omega
  | n + 1, i, k, h, hk => by
    simp only [fIx] at h
    split at h
    · subst h
      refine ⟨by omega, by omega, ?_⟩
      rw [Int.toNat_natCast]
      assumption
    · obtain ⟨h1, h2, h3⟩ := fIx_some h hk
      exact ⟨by omega, by omega, h3⟩
theorem fIx_none {f : Nat → Int} {v : Int} : ∀ {n i : Nat}, fIx f v n i = -1 ↔ ∀ j, i ≤ j → j < i + n → f j ≠ v
  | 0, i => by simp only [fIx, true_iff]; intro j h1 h2; omega
  | n + 1, i => by
    simp only [fIx]
    split
    · rename_i h
      constructor
      · intro q; omega
      · intro q; exact absurd h (q i (Nat.le_refl _) (by omega))
    · rename_i h
      rw [fIx_none]
      constructor
      · intro q j h1 h2
        by_cases e : j = i
        · rw [e]; exact h
        · exact q j (by omega) (by omega)
      · intro q j h1 h2; exact q j (by omega) (by omega)
theorem aV_lt {A : zA} (hA : AOK A) {p : Nat} (hp : p < 8) : ∀ {j i : Nat}, i < j → j < aN A p → aV A p i < aV A p j
  | 0, i, h, _ => by omega
  | j + 1, i, h, hj => by
    have h1 := hA.2.2.1 p j hp hj
    by_cases e : i = j
    · rw [e]; exact h1
    · have := aV_lt hA hp (j := j) (i := i) (by omega) (by omega)
      omega
theorem aV_inj {A : zA} (hA : AOK A) {p i j : Nat} (hp : p < 8) (hi : i < aN A p) (hj : j < aN A p) (h : aV A p i = aV A p j) : i = j := by
  by_cases h1 : i < j
  · have := aV_lt hA hp h1 hj; omega
  · by_cases h2 : j < i
    · have := aV_lt hA hp h2 hi; omega
    · omega
def pubF (A : zA) (i j : Nat) : Bool := decide (j < 5 * i) && decide (j % 5 ≤ aN A (j / 5))
def kepF (A : zA) (i j : Nat) : Bool := decide (j < 5 * i) && decide (j % 5 ≤ aN A (j / 5) ∧ verA A (j / 5) (j % 5) = aL A (j / 5))
def kpP (A : zA) (p : Nat) : Bool := decide (aL A p ≠ -1) && decide (fIx (aV A p) (aL A p) (aN A p) 0 ≠ -1)
def kprF (A : zA) (i j : Nat) : Bool := decide (j < 5 * i) && (decide (j % 5 = 0) && kpP A (j / 5))
theorem b_pub : ∀ n : Nat, n < 5 → ∀ j : Nat, j < 64 → lb (y_shl 2 (n : Int) - 1) j = decide (j ≤ n) := by decide +kernel
theorem b_two : ∀ n : Nat, n < 5 → ∀ j : Nat, j < 64 → lb (y_shl 2 (n : Int)) j = decide (j = n + 1) := by decide +kernel
theorem lb_shl5 (a : Int) {i j : Nat} (hi : i < 8) (hj : j < 64) : lb (y_shl a (5 * (i : Int))) j = (decide (5 * i ≤ j) && lb a (j - 5 * i)) := by
  rw [show (5 * (i : Int)) = ((5 * i : Nat) : Int) by omega, lb_shl a (k := 5 * i) (by omega)]
  simp [hj]
theorem pub_step {A : zA} {i : Nat} {x : Int} (hi : i < 8) (hn : aN A i ≤ 4) (hx : ∀ j, j < 64 → lb x j = pubF A i j) : ∀ j, j < 64 → lb (y_or x (y_shl (y_shl 2 (aN A i : Int) - 1) (5 * (i : Int)))) j = pubF A (i + 1) j := by
  intro j hj
  rw [lb_or, hx j hj, lb_shl5 _ hi hj, b_pub _ (by omega) _ (by omega)]
  unfold pubF
  by_cases h1 : j < 5 * i
  · simp [h1, show ¬ 5 * i ≤ j by omega, show j < 5 * (i + 1) by omega]
  · by_cases h2 : j < 5 * (i + 1)
    · rw [show j / 5 = i by omega, show j % 5 = j - 5 * i by omega]
      simp [h1, h2, show 5 * i ≤ j by omega]
    · simp [h1, h2, show ¬ j - 5 * i ≤ aN A i by omega]
theorem bit_step {g : Nat → Nat → Bool} {P : Nat → Nat → Bool} (hg : ∀ i j, g i j = (decide (j < 5 * i) && P (j / 5) (j % 5))) {i v0 : Nat} {K w : Int} (hK : ∀ j, j < 64 → lb K j = g i j) (hv : v0 < 5) (hw : ∀ j, j < 64 → lb w j = decide (j = 5 * i + v0)) (hP : ∀ v, v < 5 → P i v = decide (v = v0)) : ∀ j, j < 64 → lb (y_or K w) j = g (i + 1) j := by
  intro j hj
  rw [lb_or, hK j hj, hw j hj, hg, hg]
  by_cases h1 : j < 5 * i
  · simp [h1, show ¬ j = 5 * i + v0 by omega, show j < 5 * (i + 1) by omega]
  · by_cases h2 : j < 5 * (i + 1)
    · rw [show j / 5 = i by omega, hP _ (by omega)]
      simp [h1, h2]
      by_cases e : j = 5 * i + v0
      · simp [e]; omega
      · simp [e]; omega
    · simp [h1, h2]; omega
theorem bit_same {g : Nat → Nat → Bool} {P : Nat → Nat → Bool} (hg : ∀ i j, g i j = (decide (j < 5 * i) && P (j / 5) (j % 5))) {i : Nat} {K : Int} (hK : ∀ j, j < 64 → lb K j = g i j) (hP : ∀ v, v < 5 → P i v = false) : ∀ j, j < 64 → lb K j = g (i + 1) j := by
  intro j hj
  rw [hK j hj, hg, hg]
  by_cases h1 : j < 5 * i
  · simp [h1, show j < 5 * (i + 1) by omega]
  · by_cases h2 : j < 5 * (i + 1)
    · rw [show j / 5 = i by omega, hP _ (by omega)]
      simp [h1]
    · simp [h1, h2]
def kPf (A : zA) (p v : Nat) : Bool := decide (v ≤ aN A p ∧ verA A p v = aL A p)
def kqf (A : zA) (p v : Nat) : Bool := decide (v = 0) && kpP A p
theorem kep_g (A : zA) : ∀ i j, kepF A i j = (decide (j < 5 * i) && kPf A (j / 5) (j % 5)) := fun _ _ => rfl
theorem kpr_g (A : zA) : ∀ i j, kprF A i j = (decide (j < 5 * i) && kqf A (j / 5) (j % 5)) := fun _ _ => rfl
theorem ver_0 (A : zA) (p : Nat) : verA A p 0 = -1 := rfl
theorem ver_s (A : zA) (p v : Nat) : verA A p (v + 1) = aV A p v := rfl
theorem kP_none {A : zA} (hA : AOK A) {p : Nat} (hp : p < 8) (h : aL A p = -1) : ∀ v, v < 5 → kPf A p v = decide (v = 0) := by
  intro v hv
  unfold kPf
  cases v with
  | zero => simp [ver_0, h]
  | succ v =>
    simp only [ver_s, h]
    by_cases q : v + 1 ≤ aN A p
    · have := (hA.2.1 p v hp (by omega)).1
      simp
      omega
    · simp; omega
theorem kP_some {A : zA} (hA : AOK A) {p k : Nat} (hp : p < 8) (h : aL A p ≠ -1) (hk : fIx (aV A p) (aL A p) (aN A p) 0 = (k : Int)) : ∀ v, v < 5 → kPf A p v = decide (v = k + 1) := by
  obtain ⟨h1, h2, h3⟩ := fIx_some hk (by omega)
  rw [Int.toNat_natCast] at h3
  intro v hv
  unfold kPf
  cases v with
  | zero => simp [ver_0]; omega
  | succ v =>
    simp only [ver_s]
    by_cases q : v = k
    · subst q; simp [h3]; omega
    · have : ¬ (v + 1 ≤ aN A p ∧ aV A p v = aL A p) := fun w => q (aV_inj hA hp (by omega) (by omega) (w.2.trans h3.symm))
      simp [this]
      omega
theorem kP_no {A : zA} {p : Nat} (h : aL A p ≠ -1) (hk : fIx (aV A p) (aL A p) (aN A p) 0 = -1) : ∀ v, v < 5 → kPf A p v = false := by
  rw [fIx_none] at hk
  intro v hv
  unfold kPf
  cases v with
  | zero => simp [ver_0]; omega
  | succ v =>
    simp only [ver_s]
    have : ¬ (v + 1 ≤ aN A p ∧ aV A p v = aL A p) := fun w => hk v (by omega) (by omega) w.2
    simp [this]
def PubOK (A : zA) (x : Int) : Prop := InL x ∧ (∀ p v, p < 8 → v < 5 → lb x (5 * p + v) = decide (v ≤ aN A p)) ∧ ∀ j, 40 ≤ j → lb x j = false
def msk (x : Int) (f : Nat → Bool) : Prop := (0 ≤ x ∧ x < 32) ∧ ∀ v, v < 5 → tb x v = f v
def PzR (h : zH) (z : Nat) (A : zA) (r : Nat) : Prop := gI h (z + 1) r = rC (aR A r) ∧ msk (gI h (z + 2) r) (fun v => decide (0 ≤ rC (aR A r)) && cB A r v) ∧ gI h (z + 3) r = rT (aR A r) ∧ msk (gI h (z + 4) r) (hB A r)
def PzD (h : zH) (z : Nat) (A : zA) : Prop := (∀ r, r < aC A → PzR h z A r) ∧ PubOK A (gL h z 5) ∧ KpOK A (gL h z 6) (gL h z 7)
theorem pub_ok {A : zA} {x : Int} (hx : InL x) (h : ∀ j, j < 64 → lb x j = pubF A 8 j) : PubOK A x := by
  refine ⟨hx, fun p v hp hv => ?_, fun j hj => ?_⟩
  · rw [h _ (by omega)]
    unfold pubF
    rw [show (5 * p + v) / 5 = p by omega, show (5 * p + v) % 5 = v by omega]
    simp
    omega
  · by_cases q : j < 64
    · rw [h j q]; unfold pubF; simp; omega
    · exact lb_ge x (by omega)
theorem kep_ok {A : zA} {K KP : Int} (hA : AOK A) (h : ∀ j, j < 64 → lb K j = kepF A 8 j) (h2 : ∀ j, j < 64 → lb KP j = kprF A 8 j) : KpOK A K KP := by
  refine ⟨fun p v hp hv => ?_, fun p hp => ?_⟩
  · rw [h _ (by omega)]
    unfold kepF
    rw [show (5 * p + v) / 5 = p by omega, show (5 * p + v) % 5 = v by omega]
    simp [show 5 * p + v < 5 * 8 by omega]
  · rw [h2 _ (by omega)]
    unfold kprF kpP
    rw [show (5 * p) / 5 = p by omega, show (5 * p) % 5 = 0 by omega]
    simp only [show 5 * p < 5 * 8 by omega, decide_true, Bool.true_and, Bool.and_eq_true, decide_eq_true_eq]
    constructor
    · rintro ⟨q1, q2⟩
      obtain ⟨g1, g2, g3⟩ := fIx_some rfl q2
      exact ⟨(fIx (aV A p) (aL A p) (aN A p) 0).toNat + 1, by omega, by omega, g3⟩
    · rintro ⟨v, q1, q2, q3⟩
      cases v with
      | zero => omega
      | succ v =>
        rw [ver_s] at q3
        have := (hA.2.1 p v hp (by omega)).1
        refine ⟨by omega, fun q => ?_⟩
        rw [fIx_none] at q
        exact q v (by omega) (by omega) q3
theorem valM_b (f : Nat → Int) (g : Int → Bool) {v : Nat} (hv : v < 32) : ∀ n, n ≤ 4 → tb (valM f g n) v = (decide (1 ≤ v ∧ v ≤ n) && g (f (v - 1)))
  | 0, _ => by simp [valM, tb_0]; omega
  | n + 1, hn => by
    have ih := valM_b f g hv n (by omega)
    have b2 : ∀ n : Nat, n < 4 → ∀ v : Nat, v < 32 → tb (z_shl 2 (n : Int)) v = decide (v = n + 1) := by decide +kernel
    simp only [valM]
    by_cases e : v = n + 1
    · subst e
      cases hq : g (f n) <;> simp [tb_or, ih, b2 n (by omega) _ hv, hq]
    · have h1 : decide (1 ≤ v ∧ v ≤ n + 1) = decide (1 ≤ v ∧ v ≤ n) := by
        by_cases h : 1 ≤ v ∧ v ≤ n
        · simp [h]; omega
        · simp [h]; omega
      rw [h1]
      cases hq : g (f n)
      · simp [ih]
      · simp [tb_or, ih, b2 n (by omega) _ hv, e]
theorem valM_R (f : Nat → Int) (g : Int → Bool) : ∀ n, InR (valM f g n)
  | 0 => by simp [valM, InR]
  | n + 1 => by
    simp only [valM]
    split
    · exact InR_or _ _
    · exact valM_R f g n
theorem valM_m (f : Nat → Int) (g : Int → Bool) {n : Nat} (hn : n ≤ 4) : 0 ≤ valM f g n ∧ valM f g n < 32 :=
  tb_small (n := 5) (by omega) (valM_R f g n) (fun i h1 h2 => by rw [valM_b f g h2 n hn]; simp; omega)
theorem Fr_L1 (h : zH) (a k : Nat) (z : Int) : Fr (fun c => c = a) h (sL h a k z) := Fr.sL _ _ _ _ _ rfl
theorem Fr_I1 (h : zH) (a k : Nat) (z : Int) : Fr (fun c => c = a) h (sI h a k z) := Fr.sI _ _ _ _ _ rfl
theorem StOK.o1 {h h' : zH} {z a : Nat} {A : zA} (hS : StOK h a A) (f : Fr (fun c => c = z) h h') (hd : a + 4 < z ∨ z < a) (hz : z < 109) : StOK h' a A := hS.fr f (fun q hq => by omega) (fun q q1 q2 => by omega)
theorem ShP.I {h : zH} {z : Nat} (hs : ShP h z) (a k : Nat) (w : Int) : ShP (sI h a k w) z := hs
theorem ShP.L {h : zH} {z : Nat} (hs : ShP h z) (a k : Nat) (w : Int) : ShP (sL h a k w) z := hs
theorem PzR.o {h h' : zH} {z r : Nat} {A : zA} (h1 : gI h' (z + 1) r = gI h (z + 1) r) (h2 : gI h' (z + 2) r = gI h (z + 2) r) (h3 : gI h' (z + 3) r = gI h (z + 3) r) (h4 : gI h' (z + 4) r = gI h (z + 4) r) (hr : PzR h z A r) : PzR h' z A r := by
  unfold PzR
  rw [h1, h2, h3, h4]
  exact hr
set_option maxHeartbeats 4000000 in
theorem sp_pzLoad (l : Launch) (G : zG) (h : zH) (z a : Nat) (A : zA) (hsh : ShP h z) (hS : StOK h a A) (hA : AOK A) (hd : a + 4 < z) (hz : z + 4 < 109) (lv : Nat) (hlv : 4 ≤ lv) : z_Sp l G mtX2_load lv 0 0 [vR z, vR a] (h) (fun r h' => r = none ∧ Fr (fun c => z ≤ c ∧ c ≤ z + 4) h h' ∧ PzD h' z A ∧ gI h' z 9 = -1 ∧ gI h' z 10 = gI h z 10 ∧ gR h' = gR h) := by
  refine x_enter [vR z, vR a, vJ, vJ, vJ, vJ] (by decide +kernel) (by omega) rfl (Nat.le_of_ble_eq_true rfl) ?_
  generalize hQ : (fun (r : Option zV) (h' : zH) => r = none ∧ Fr (fun c => z ≤ c ∧ c ≤ z + 4) h h' ∧ PzD h' z A ∧ gI h' z 9 = -1 ∧ gI h' z 10 = gI h z 10 ∧ gR h' = gR h) = QQ
  have h20 := hA.2.2.2.2.1
  have lo2 : ∀ (d i : Nat) (h1 : zH), i + d = aC A → Fr (fun c => z ≤ c ∧ c ≤ z + 4) h h1 → ShP h1 z → StOK h1 a A → PubOK A (gL h1 z 5) → KpOK A (gL h1 z 6) (gL h1 z 7) → (gI h1 z 9 = -1 ∧ gI h1 z 10 = gI h z 10 ∧ gR h1 = gR h) → (∀ r, r < i → PzR h1 z A r) → z_X l G mtX2_load lv 0 0 (QQ) 0 0 (h1) 134 [vR z, vR a, vI i, vJ, vJ, vJ] [] := by
    intro d
    induction d with
    | zero =>
      intro i h1 hi hf hs1 hS1 hp1 hk1 hm1 hr1
      refine z_run1 tsX2_load [] 10 ?_
      simp (maxSteps := 1000000) -implicitDefEqProofs +contextual (disch := omega) only [z_wp_t, z_wp_u, ↓pI_e, ↓pL_e, ↓pO_e, ↓pR_e, ↓p1_I, ↓p1_O, z_gl, z_st1, z_st2, z_nl_I, z_nl_O, z_nl_J, z_nl_L, if_true, if_false, ite_true, ite_false, true_and, and_true, List.mem_cons, List.not_mem_nil, or_false, false_or, or_self, List.length_cons, List.length_nil, InR_t, InL_t, z_ix_t, mI_s1, mI_s2, ↓brT, ↓brF, ↓brT', ↓brF', mL_sI, mR_sI, mK_sI, mS_sI, mI_sL, mL_s1, mL_s2, mR_sL, mK_sL, mS_sL, mI_sR, mL_sR, mR_s1, mR_s2, mK_sR, mS_sR, mA_s1, mA_s2, mL_sA, mR_sA, mK_sA, mS_sA, ix_n, ix_a, ix_m, ix_s, z_sw, z_stop, forall_const, true_implies, false_implies, imp_self, implies_true, not_true_eq_false, not_false_eq_true, ne_eq, eq_self, Option.some.injEq, reduceCtorEq, Nat.reduceAdd, Nat.reduceSub, Nat.reduceMul, Nat.reduceEqDiff, Nat.reduceLT, Nat.reduceLeDiff, Int.reduceAdd, Int.reduceMul, Int.reduceSub, Int.reduceNeg, Int.reduceToNat, Int.reduceLT, Int.reduceLE, Int.reduceEq, ↓reduceIte, List.reverse_cons, Option.toList, List.cons_append, List.nil_append, vI_inj, vL_inj, vO_inj, rI, rL, rO, rV, mI_sQ, mL_sQ, mK_sQ, mS_sQ, mQ_s1, mQ_s2, iL_and, iL_or, iL_xor, iL_shl, iL_ushr, iR_and, iR_or, iR_xor, iR_shl, iR_shr, iR_ushr, iR_cmp, yc0, tlX2_load, tkX2_load, o_aload, o_astore, o_dup, o_getI, o_getL, o_getR, o_goto, o_iand, o_iast, o_ic, o_iceq, o_icge, o_icne, o_ifeq, o_ifnull, o_iinc, o_iload, o_imul, o_istore, o_ixor, o_lc, o_lor, o_lshl, o_lsub, o_putI, o_putL, o_vret]
      try simp +contextual (disch := omega) only [impF, impT, and_true, true_and, implies_true, not_false_eq_true, not_true_eq_false]
      refine x_callV (by decide +kernel) cv_X2_57 (sp_ruleCount l G h1 a A hS1 1 (by omega)) hS1.1.1 (by omega) rfl (by omega) (by omega) rfl (Nat.le_of_ble_eq_true rfl) ?_
      rintro r h' ⟨rfl, hE⟩
      subst h'
      refine z_run1 tsX2_load [] 10 ?_
      simp (maxSteps := 1000000) -implicitDefEqProofs +contextual (disch := omega) only [z_wp_t, z_wp_u, ↓pI_e, ↓pL_e, ↓pO_e, ↓pR_e, ↓p1_I, ↓p1_O, z_gl, z_st1, z_st2, z_nl_I, z_nl_O, z_nl_J, z_nl_L, if_true, if_false, ite_true, ite_false, true_and, and_true, List.mem_cons, List.not_mem_nil, or_false, false_or, or_self, List.length_cons, List.length_nil, InR_t, InL_t, z_ix_t, mI_s1, mI_s2, ↓brT, ↓brF, ↓brT', ↓brF', mL_sI, mR_sI, mK_sI, mS_sI, mI_sL, mL_s1, mL_s2, mR_sL, mK_sL, mS_sL, mI_sR, mL_sR, mR_s1, mR_s2, mK_sR, mS_sR, mA_s1, mA_s2, mL_sA, mR_sA, mK_sA, mS_sA, ix_n, ix_a, ix_m, ix_s, z_sw, z_stop, forall_const, true_implies, false_implies, imp_self, implies_true, not_true_eq_false, not_false_eq_true, ne_eq, eq_self, Option.some.injEq, reduceCtorEq, Nat.reduceAdd, Nat.reduceSub, Nat.reduceMul, Nat.reduceEqDiff, Nat.reduceLT, Nat.reduceLeDiff, Int.reduceAdd, Int.reduceMul, Int.reduceSub, Int.reduceNeg, Int.reduceToNat, Int.reduceLT, Int.reduceLE, Int.reduceEq, ↓reduceIte, List.reverse_cons, Option.toList, List.cons_append, List.nil_append, vI_inj, vL_inj, vO_inj, rI, rL, rO, rV, mI_sQ, mL_sQ, mK_sQ, mS_sQ, mQ_s1, mQ_s2, iL_and, iL_or, iL_xor, iL_shl, iL_ushr, iR_and, iR_or, iR_xor, iR_shl, iR_shr, iR_ushr, iR_cmp, yc0, tlX2_load, tkX2_load, o_aload, o_astore, o_dup, o_getI, o_getL, o_getR, o_goto, o_iand, o_iast, o_ic, o_iceq, o_icge, o_icne, o_ifeq, o_ifnull, o_iinc, o_iload, o_imul, o_istore, o_ixor, o_lc, o_lor, o_lshl, o_lsub, o_putI, o_putL, o_vret]
      try simp +contextual (disch := omega) only [impF, impT, and_true, true_and, implies_true, not_false_eq_true, not_true_eq_false]
      rw [← hQ]
      exact ⟨rfl, hf, ⟨fun r hr => hr1 r (by omega), hp1, hk1⟩, hm1⟩
    | succ d ih =>
      intro i h1 hi hf hs1 hS1 hp1 hk1 hm1 hr1
      have hs1' := hs1
      obtain ⟨k0, k1, k2, k3, k4, k5, r0, r1, r2, r3, r4⟩ := hs1'
      obtain ⟨q, hq1, hq2⟩ := hS1.2.2.2.2.2.2 i (by omega)
      have hra := hA.2.2.2.2.2.2 i (by omega)
      unfold RuA at hra
      have hq2' := hq2
      obtain ⟨q109, kq, f0, f1, f2, f3, f4, f5, ⟨N1, rg1⟩, N2, rg2⟩ := hq2'
      refine z_run1 tsX2_load [] 10 ?_
      simp (maxSteps := 1000000) -implicitDefEqProofs +contextual (disch := omega) only [z_wp_t, z_wp_u, ↓pI_e, ↓pL_e, ↓pO_e, ↓pR_e, ↓p1_I, ↓p1_O, z_gl, z_st1, z_st2, z_nl_I, z_nl_O, z_nl_J, z_nl_L, if_true, if_false, ite_true, ite_false, true_and, and_true, List.mem_cons, List.not_mem_nil, or_false, false_or, or_self, List.length_cons, List.length_nil, InR_t, InL_t, z_ix_t, mI_s1, mI_s2, ↓brT, ↓brF, ↓brT', ↓brF', mL_sI, mR_sI, mK_sI, mS_sI, mI_sL, mL_s1, mL_s2, mR_sL, mK_sL, mS_sL, mI_sR, mL_sR, mR_s1, mR_s2, mK_sR, mS_sR, mA_s1, mA_s2, mL_sA, mR_sA, mK_sA, mS_sA, ix_n, ix_a, ix_m, ix_s, z_sw, z_stop, forall_const, true_implies, false_implies, imp_self, implies_true, not_true_eq_false, not_false_eq_true, ne_eq, eq_self, Option.some.injEq, reduceCtorEq, Nat.reduceAdd, Nat.reduceSub, Nat.reduceMul, Nat.reduceEqDiff, Nat.reduceLT, Nat.reduceLeDiff, Int.reduceAdd, Int.reduceMul, Int.reduceSub, Int.reduceNeg, Int.reduceToNat, Int.reduceLT, Int.reduceLE, Int.reduceEq, ↓reduceIte, List.reverse_cons, Option.toList, List.cons_append, List.nil_append, vI_inj, vL_inj, vO_inj, rI, rL, rO, rV, mI_sQ, mL_sQ, mK_sQ, mS_sQ, mQ_s1, mQ_s2, iL_and, iL_or, iL_xor, iL_shl, iL_ushr, iR_and, iR_or, iR_xor, iR_shl, iR_shr, iR_ushr, iR_cmp, yc0, tlX2_load, tkX2_load, o_aload, o_astore, o_dup, o_getI, o_getL, o_getR, o_goto, o_iand, o_iast, o_ic, o_iceq, o_icge, o_icne, o_ifeq, o_ifnull, o_iinc, o_iload, o_imul, o_istore, o_ixor, o_lc, o_lor, o_lshl, o_lsub, o_putI, o_putL, o_vret]
      try simp +contextual (disch := omega) only [impF, impT, and_true, true_and, implies_true, not_false_eq_true, not_true_eq_false]
      refine x_callV (by decide +kernel) cv_X2_57 (sp_ruleCount l G h1 a A hS1 1 (by omega)) hS1.1.1 (by omega) rfl (by omega) (by omega) rfl (Nat.le_of_ble_eq_true rfl) ?_
      rintro r h' ⟨rfl, hE⟩
      subst h'
      refine z_run1 tsX2_load [] 10 ?_
      simp (maxSteps := 1000000) -implicitDefEqProofs +contextual (disch := omega) only [z_wp_t, z_wp_u, ↓pI_e, ↓pL_e, ↓pO_e, ↓pR_e, ↓p1_I, ↓p1_O, z_gl, z_st1, z_st2, z_nl_I, z_nl_O, z_nl_J, z_nl_L, if_true, if_false, ite_true, ite_false, true_and, and_true, List.mem_cons, List.not_mem_nil, or_false, false_or, or_self, List.length_cons, List.length_nil, InR_t, InL_t, z_ix_t, mI_s1, mI_s2, ↓brT, ↓brF, ↓brT', ↓brF', mL_sI, mR_sI, mK_sI, mS_sI, mI_sL, mL_s1, mL_s2, mR_sL, mK_sL, mS_sL, mI_sR, mL_sR, mR_s1, mR_s2, mK_sR, mS_sR, mA_s1, mA_s2, mL_sA, mR_sA, mK_sA, mS_sA, ix_n, ix_a, ix_m, ix_s, z_sw, z_stop, forall_const, true_implies, false_implies, imp_self, implies_true, not_true_eq_false, not_false_eq_true, ne_eq, eq_self, Option.some.injEq, reduceCtorEq, Nat.reduceAdd, Nat.reduceSub, Nat.reduceMul, Nat.reduceEqDiff, Nat.reduceLT, Nat.reduceLeDiff, Int.reduceAdd, Int.reduceMul, Int.reduceSub, Int.reduceNeg, Int.reduceToNat, Int.reduceLT, Int.reduceLE, Int.reduceEq, ↓reduceIte, List.reverse_cons, Option.toList, List.cons_append, List.nil_append, vI_inj, vL_inj, vO_inj, rI, rL, rO, rV, mI_sQ, mL_sQ, mK_sQ, mS_sQ, mQ_s1, mQ_s2, iL_and, iL_or, iL_xor, iL_shl, iL_ushr, iR_and, iR_or, iR_xor, iR_shl, iR_shr, iR_ushr, iR_cmp, yc0, tlX2_load, tkX2_load, o_aload, o_astore, o_dup, o_getI, o_getL, o_getR, o_goto, o_iand, o_iast, o_ic, o_iceq, o_icge, o_icne, o_ifeq, o_ifnull, o_iinc, o_iload, o_imul, o_istore, o_ixor, o_lc, o_lor, o_lshl, o_lsub, o_putI, o_putL, o_vret]
      try simp +contextual (disch := omega) only [impF, impT, and_true, true_and, implies_true, not_false_eq_true, not_true_eq_false]
      refine x_callV (by decide +kernel) cv_X2_61 (sp_ruleAt l G h1 a i A hS1 hA (by unfold InR; omega) 1 (by omega)) hS1.1.1 (by omega) rfl (by omega) (by omega) rfl (Nat.le_of_ble_eq_true rfl) ?_
      rintro r h' ⟨rfl, hE⟩
      subst h'
      rw [if_pos (by omega), Int.toNat_natCast, hq1]
      refine z_run1 tsX2_load [] 30 ?_
      simp (maxSteps := 1000000) -implicitDefEqProofs +contextual (disch := omega) only [z_wp_t, z_wp_u, ↓pI_e, ↓pL_e, ↓pO_e, ↓pR_e, ↓p1_I, ↓p1_O, z_gl, z_st1, z_st2, z_nl_I, z_nl_O, z_nl_J, z_nl_L, if_true, if_false, ite_true, ite_false, true_and, and_true, List.mem_cons, List.not_mem_nil, or_false, false_or, or_self, List.length_cons, List.length_nil, InR_t, InL_t, z_ix_t, mI_s1, mI_s2, ↓brT, ↓brF, ↓brT', ↓brF', mL_sI, mR_sI, mK_sI, mS_sI, mI_sL, mL_s1, mL_s2, mR_sL, mK_sL, mS_sL, mI_sR, mL_sR, mR_s1, mR_s2, mK_sR, mS_sR, mA_s1, mA_s2, mL_sA, mR_sA, mK_sA, mS_sA, ix_n, ix_a, ix_m, ix_s, z_sw, z_stop, forall_const, true_implies, false_implies, imp_self, implies_true, not_true_eq_false, not_false_eq_true, ne_eq, eq_self, Option.some.injEq, reduceCtorEq, Nat.reduceAdd, Nat.reduceSub, Nat.reduceMul, Nat.reduceEqDiff, Nat.reduceLT, Nat.reduceLeDiff, Int.reduceAdd, Int.reduceMul, Int.reduceSub, Int.reduceNeg, Int.reduceToNat, Int.reduceLT, Int.reduceLE, Int.reduceEq, ↓reduceIte, List.reverse_cons, Option.toList, List.cons_append, List.nil_append, vI_inj, vL_inj, vO_inj, rI, rL, rO, rV, mI_sQ, mL_sQ, mK_sQ, mS_sQ, mQ_s1, mQ_s2, iL_and, iL_or, iL_xor, iL_shl, iL_ushr, iR_and, iR_or, iR_xor, iR_shl, iR_shr, iR_ushr, iR_cmp, yc0, tlX2_load, tkX2_load, o_aload, o_astore, o_dup, o_getI, o_getL, o_getR, o_goto, o_iand, o_iast, o_ic, o_iceq, o_icge, o_icne, o_ifeq, o_ifnull, o_iinc, o_iload, o_imul, o_istore, o_ixor, o_lc, o_lor, o_lshl, o_lsub, o_putI, o_putL, o_vret, k0, k1, r0, r1, kq, f1, f2]
      try simp +contextual (disch := omega) only [impF, impT, and_true, true_and, implies_true, not_false_eq_true, not_true_eq_false]
      have fr1 : Fr (fun c => c = z + 1) h1 (sI h1 (z + 1) i (rC (aR A i))) := Fr_I1 _ _ _ _
      have hS2 := hS1.o1 fr1 (by omega) (by omega)
      have rg1' := rg1.fr fr1 ⟨by omega, by omega, by omega⟩
      have rg2' := rg2.fr fr1 ⟨by omega, by omega, by omega⟩
      generalize hh2 : sI h1 (z + 1) i (rC (aR A i)) = h2 at fr1 hS2 rg1' rg2'
      have m1 : gI h2 (z + 1) i = rC (aR A i) := by rw [← hh2, mI_s1]
      have rest : ∀ (w : Int), msk w (fun v => decide (0 ≤ rC (aR A i)) && cB A i v) → z_X l G mtX2_load lv 0 0 (QQ) 0 0 (h2) 185 [vR z, vR a, vI i, vR q, vJ, vJ] [vI w, vI i, vR (z + 2)] := by
        intro w hw
        have k0' : (gK h2 z).1 = 2 := by rw [fr1.K]; exact k0
        have k2' : gK h2 (z + 2) = (9, 20) := by rw [fr1.K]; exact k2
        have k3' : gK h2 (z + 3) = (9, 20) := by rw [fr1.K]; exact k3
        have k4' : gK h2 (z + 4) = (9, 20) := by rw [fr1.K]; exact k4
        have kq' : (gK h2 q).1 = 4 := by rw [fr1.K]; exact kq
        have r2' : gR h2 z 2 = some (z + 3) := by rw [fr1.R (by omega)]; exact r2
        have r3' : gR h2 z 3 = some (z + 4) := by rw [fr1.R (by omega)]; exact r3
        have f3' : gI h2 q 3 = rB (aR A i) := by rw [fr1.I (by omega)]; exact f3
        have f4' : gI h2 q 4 = rT (aR A i) := by rw [fr1.I (by omega)]; exact f4
        have f5' : gR h2 q 5 = some (q + 4) := by rw [fr1.R (by omega)]; exact f5
        have eT : rT (aR A i) = ((rTn A i : Nat) : Int) := by unfold rTn; omega
        refine z_run1 tsX2_load [] 30 ?_
        simp (maxSteps := 1000000) -implicitDefEqProofs +contextual (disch := omega) only [z_wp_t, z_wp_u, ↓pI_e, ↓pL_e, ↓pO_e, ↓pR_e, ↓p1_I, ↓p1_O, z_gl, z_st1, z_st2, z_nl_I, z_nl_O, z_nl_J, z_nl_L, if_true, if_false, ite_true, ite_false, true_and, and_true, List.mem_cons, List.not_mem_nil, or_false, false_or, or_self, List.length_cons, List.length_nil, InR_t, InL_t, z_ix_t, mI_s1, mI_s2, ↓brT, ↓brF, ↓brT', ↓brF', mL_sI, mR_sI, mK_sI, mS_sI, mI_sL, mL_s1, mL_s2, mR_sL, mK_sL, mS_sL, mI_sR, mL_sR, mR_s1, mR_s2, mK_sR, mS_sR, mA_s1, mA_s2, mL_sA, mR_sA, mK_sA, mS_sA, ix_n, ix_a, ix_m, ix_s, z_sw, z_stop, forall_const, true_implies, false_implies, imp_self, implies_true, not_true_eq_false, not_false_eq_true, ne_eq, eq_self, Option.some.injEq, reduceCtorEq, Nat.reduceAdd, Nat.reduceSub, Nat.reduceMul, Nat.reduceEqDiff, Nat.reduceLT, Nat.reduceLeDiff, Int.reduceAdd, Int.reduceMul, Int.reduceSub, Int.reduceNeg, Int.reduceToNat, Int.reduceLT, Int.reduceLE, Int.reduceEq, ↓reduceIte, List.reverse_cons, Option.toList, List.cons_append, List.nil_append, vI_inj, vL_inj, vO_inj, rI, rL, rO, rV, mI_sQ, mL_sQ, mK_sQ, mS_sQ, mQ_s1, mQ_s2, iL_and, iL_or, iL_xor, iL_shl, iL_ushr, iR_and, iR_or, iR_xor, iR_shl, iR_shr, iR_ushr, iR_cmp, yc0, tlX2_load, tkX2_load, o_aload, o_astore, o_dup, o_getI, o_getL, o_getR, o_goto, o_iand, o_iast, o_ic, o_iceq, o_icge, o_icne, o_ifeq, o_ifnull, o_iinc, o_iload, o_imul, o_istore, o_ixor, o_lc, o_lor, o_lshl, o_lsub, o_putI, o_putL, o_vret, k0', k2', k3', k4', kq', r2', f4', f5']
        try simp +contextual (disch := omega) only [impF, impT, and_true, true_and, implies_true, not_false_eq_true, not_true_eq_false]
        have fr2 : Fr (fun c => c = z + 2 ∨ c = z + 3) h2 (sI (sI h2 (z + 2) i w) (z + 3) i (rT (aR A i))) := (Fr.sI (fun c => c = z + 2 ∨ c = z + 3) _ _ _ _ (Or.inl rfl)).tr' (Fr.sI _ _ _ _ _ (Or.inr rfl)) (fun _ q => q) (fun _ q => q)
        have hS3 := hS2.fr fr2 (fun q hq => by omega) (fun q q1 q2 => by omega)
        have rg3 := rg2'.fr fr2 ⟨by omega, by omega, by omega⟩
        have m2 : gI (sI (sI h2 (z + 2) i w) (z + 3) i (rT (aR A i))) (z + 2) i = w := by rw [mI_s2 _ _ (Or.inl (by omega)), mI_s1]
        have m3 : gI (sI (sI h2 (z + 2) i w) (z + 3) i (rT (aR A i))) (z + 3) i = rT (aR A i) := by rw [mI_s1]
        generalize hh3 : sI (sI h2 (z + 2) i w) (z + 3) i (rT (aR A i)) = h3 at fr2 hS3 rg3 m2 m3 ⊢
        rw [eT]
        refine x_callV (by decide +kernel) cv_X2_73 (sp_valuesIn l G h3 a (rTn A i) (q + 4) N2 (rTi (aR A i)) A hS3 hA (by unfold rTn; omega) rg3 3 (by omega)) hS3.1.1 (by omega) rfl (by omega) (by omega) rfl (Nat.le_of_ble_eq_true rfl) ?_
        rintro r h' ⟨rfl, hE⟩
        subst h'
        have hn4 := hA.1 (rTn A i) (by unfold rTn; omega)
        have hvm := valM_m (aV A (rTn A i)) (rTi (aR A i)) hn4
        have hvb := fun (v : Nat) (hv : v < 5) => valM_b (aV A (rTn A i)) (rTi (aR A i)) (v := v) (by omega) (aN A (rTn A i)) hn4
        generalize hvv : valM (aV A (rTn A i)) (rTi (aR A i)) (aN A (rTn A i)) = vv at hvm hvb
        have k0'' : (gK h3 z).1 = 2 := by rw [fr2.K]; exact k0'
        have k4'' : gK h3 (z + 4) = (9, 20) := by rw [fr2.K]; exact k4'
        have kq'' : (gK h3 q).1 = 4 := by rw [fr2.K]; exact kq'
        have r3'' : gR h3 z 3 = some (z + 4) := by rw [fr2.R (by omega)]; exact r3'
        have f3'' : gI h3 q 3 = rB (aR A i) := by rw [fr2.I (by omega)]; exact f3'
        have fin : ∀ (u : Int), msk u (hB A i) → z_X l G mtX2_load lv 0 0 (QQ) 0 0 (sI h3 (z + 4) i u) 134 [vR z, vR a, vI ((i + 1 : Nat) : Int), vJ, vJ, vJ] [] := by
          intro u hu
          have fr3 : Fr (fun c => c = z + 4) h3 (sI h3 (z + 4) i u) := Fr_I1 _ _ _ _
          have fr4 : Fr (fun c => z + 1 ≤ c ∧ c ≤ z + 4) h1 (sI h3 (z + 4) i u) := (fr1.tr' (U := fun c => z + 1 ≤ c ∧ c ≤ z + 4) fr2 (fun c q => by omega) (fun c q => by omega)).tr' fr3 (fun c q => q) (fun c q => by omega)
          refine ih (i + 1) _ (by omega) (hf.tr' fr4 (fun _ q => q) (fun c q => by omega)) (hs1.fr fr4 (by omega)) (hS1.fr fr4 (fun q hq => by omega) (fun q q1 q2 => by omega)) (by rw [fr4.L (by omega)]; exact hp1) (by rw [fr4.L (by omega)]; exact hk1) ⟨by rw [fr4.I (by omega)]; exact hm1.1, by rw [fr4.I (by omega)]; exact hm1.2.1, by rw [mR_sI, ← hh3, mR_sI, mR_sI, ← hh2, mR_sI]; exact hm1.2.2⟩ (fun r hr => ?_)
          by_cases e : r = i
          · subst e
            refine ⟨?_, ?_, ?_, ?_⟩
            · rw [mI_s2 _ _ (Or.inl (by omega)), fr2.I (by omega)]; exact m1
            · rw [mI_s2 _ _ (Or.inl (by omega)), m2]; exact hw
            · rw [mI_s2 _ _ (Or.inl (by omega)), m3]
            · rw [mI_s1]; exact hu
          · refine (hr1 r (by omega)).o ?_ ?_ ?_ ?_
            · rw [mI_s2 _ _ (Or.inl (by omega)), fr2.I (by omega), ← hh2, mI_s2 _ _ (Or.inr e)]
            · rw [mI_s2 _ _ (Or.inl (by omega)), ← hh3, mI_s2 _ _ (Or.inl (by omega)), mI_s2 _ _ (Or.inr e), fr1.I (by omega)]
            · rw [mI_s2 _ _ (Or.inl (by omega)), ← hh3, mI_s2 _ _ (Or.inr e), mI_s2 _ _ (Or.inl (by omega)), fr1.I (by omega)]
            · rw [mI_s2 _ _ (Or.inr e), fr2.I (by omega), fr1.I (by omega)]
        have htB : ∀ v, v < 5 → tb vv v = tB A i v := fun v hv => by rw [hvb v hv]; rfl
        by_cases hrb : rB (aR A i) = 0
        · have hu : msk vv (hB A i) := ⟨hvm, fun v hv => by rw [htB v hv]; unfold hB; rw [if_neg (by omega)]⟩
          have hfin := fin vv hu
          refine z_run1 tsX2_load [134] 30 ?_
          simp (maxSteps := 1000000) -implicitDefEqProofs +contextual (disch := omega) only [z_wp_t, z_wp_u, ↓pI_e, ↓pL_e, ↓pO_e, ↓pR_e, ↓p1_I, ↓p1_O, z_gl, z_st1, z_st2, z_nl_I, z_nl_O, z_nl_J, z_nl_L, if_true, if_false, ite_true, ite_false, true_and, and_true, List.mem_cons, List.not_mem_nil, or_false, false_or, or_self, List.length_cons, List.length_nil, InR_t, InL_t, z_ix_t, mI_s1, mI_s2, ↓brT, ↓brF, ↓brT', ↓brF', mL_sI, mR_sI, mK_sI, mS_sI, mI_sL, mL_s1, mL_s2, mR_sL, mK_sL, mS_sL, mI_sR, mL_sR, mR_s1, mR_s2, mK_sR, mS_sR, mA_s1, mA_s2, mL_sA, mR_sA, mK_sA, mS_sA, ix_n, ix_a, ix_m, ix_s, z_sw, z_stop, forall_const, true_implies, false_implies, imp_self, implies_true, not_true_eq_false, not_false_eq_true, ne_eq, eq_self, Option.some.injEq, reduceCtorEq, Nat.reduceAdd, Nat.reduceSub, Nat.reduceMul, Nat.reduceEqDiff, Nat.reduceLT, Nat.reduceLeDiff, Int.reduceAdd, Int.reduceMul, Int.reduceSub, Int.reduceNeg, Int.reduceToNat, Int.reduceLT, Int.reduceLE, Int.reduceEq, ↓reduceIte, List.reverse_cons, Option.toList, List.cons_append, List.nil_append, vI_inj, vL_inj, vO_inj, rI, rL, rO, rV, mI_sQ, mL_sQ, mK_sQ, mS_sQ, mQ_s1, mQ_s2, iL_and, iL_or, iL_xor, iL_shl, iL_ushr, iR_and, iR_or, iR_xor, iR_shl, iR_shr, iR_ushr, iR_cmp, yc0, tlX2_load, tkX2_load, o_aload, o_astore, o_dup, o_getI, o_getL, o_getR, o_goto, o_iand, o_iast, o_ic, o_iceq, o_icge, o_icne, o_ifeq, o_ifnull, o_iinc, o_iload, o_imul, o_istore, o_ixor, o_lc, o_lor, o_lshl, o_lsub, o_putI, o_putL, o_vret, k0'', k4'', kq'', r3'', f3'', hrb]
          try simp +contextual (disch := omega) only [impF, impT, and_true, true_and, implies_true, not_false_eq_true, not_true_eq_false]
          refine x_wk [vR z, vR a, vI ((i + 1 : Nat) : Int), vJ, vJ, vJ] (by simp [z_wk]) ?_
          exact hfin
        · have hrb1 : rB (aR A i) = 1 := by omega
          have hub : ∀ v, v < 32 → tb (z_and 31 (z_xor vv (-1))) v = (decide (v < 5) && !tb vv v) := fun v hv => by rw [tb_and, tb31 v hv, tb_not _ hv]
          have hu : msk (z_and 31 (z_xor vv (-1))) (hB A i) := ⟨tb_small (n := 5) (by omega) (InR_and _ _) (fun i h1 h2 => by rw [hub i h2]; simp; omega), fun v hv => by rw [hub v (by omega), htB v hv]; unfold hB; rw [if_pos hrb1]; simp [hv]⟩
          have hfin := fin _ hu
          refine z_run1 tsX2_load [134] 30 ?_
          simp (maxSteps := 1000000) -implicitDefEqProofs +contextual (disch := omega) only [z_wp_t, z_wp_u, ↓pI_e, ↓pL_e, ↓pO_e, ↓pR_e, ↓p1_I, ↓p1_O, z_gl, z_st1, z_st2, z_nl_I, z_nl_O, z_nl_J, z_nl_L, if_true, if_false, ite_true, ite_false, true_and, and_true, List.mem_cons, List.not_mem_nil, or_false, false_or, or_self, List.length_cons, List.length_nil, InR_t, InL_t, z_ix_t, mI_s1, mI_s2, ↓brT, ↓brF, ↓brT', ↓brF', mL_sI, mR_sI, mK_sI, mS_sI, mI_sL, mL_s1, mL_s2, mR_sL, mK_sL, mS_sL, mI_sR, mL_sR, mR_s1, mR_s2, mK_sR, mS_sR, mA_s1, mA_s2, mL_sA, mR_sA, mK_sA, mS_sA, ix_n, ix_a, ix_m, ix_s, z_sw, z_stop, forall_const, true_implies, false_implies, imp_self, implies_true, not_true_eq_false, not_false_eq_true, ne_eq, eq_self, Option.some.injEq, reduceCtorEq, Nat.reduceAdd, Nat.reduceSub, Nat.reduceMul, Nat.reduceEqDiff, Nat.reduceLT, Nat.reduceLeDiff, Int.reduceAdd, Int.reduceMul, Int.reduceSub, Int.reduceNeg, Int.reduceToNat, Int.reduceLT, Int.reduceLE, Int.reduceEq, ↓reduceIte, List.reverse_cons, Option.toList, List.cons_append, List.nil_append, vI_inj, vL_inj, vO_inj, rI, rL, rO, rV, mI_sQ, mL_sQ, mK_sQ, mS_sQ, mQ_s1, mQ_s2, iL_and, iL_or, iL_xor, iL_shl, iL_ushr, iR_and, iR_or, iR_xor, iR_shl, iR_shr, iR_ushr, iR_cmp, yc0, tlX2_load, tkX2_load, o_aload, o_astore, o_dup, o_getI, o_getL, o_getR, o_goto, o_iand, o_iast, o_ic, o_iceq, o_icge, o_icne, o_ifeq, o_ifnull, o_iinc, o_iload, o_imul, o_istore, o_ixor, o_lc, o_lor, o_lshl, o_lsub, o_putI, o_putL, o_vret, k0'', k4'', kq'', r3'', f3'', hrb1]
          try simp +contextual (disch := omega) only [impF, impT, and_true, true_and, implies_true, not_false_eq_true, not_true_eq_false]
          refine x_wk [vR z, vR a, vI ((i + 1 : Nat) : Int), vJ, vJ, vJ] (by simp [z_wk]) ?_
          exact hfin
      by_cases hc : rC (aR A i) = -1
      · refine x_callV (by decide +kernel) cv_X2_73 (sp_valuesIn0 l G h2 a (q + 1) (rC (aR A i)) (by unfold InR; omega) (by omega) 3 (by omega)) hS2.1.1 (by omega) rfl (by omega) (by omega) rfl (Nat.le_of_ble_eq_true rfl) ?_
        rintro r h' ⟨rfl, hE⟩
        subst h'
        exact rest 0 ⟨by omega, fun v hv => by rw [tb_0]; simp; omega⟩
      · have eC : rC (aR A i) = ((rCn A i : Nat) : Int) := by unfold rCn; omega
        have hn4 := hA.1 (rCn A i) (by unfold rCn; omega)
        have hsp := sp_valuesIn l G h2 a (rCn A i) (q + 1) N1 (rCi (aR A i)) A hS2 hA (by unfold rCn; omega) rg1' 3 (by omega)
        rw [← eC] at hsp
        refine x_callV (by decide +kernel) cv_X2_73 (hsp) hS2.1.1 (by omega) rfl (by omega) (by omega) rfl (Nat.le_of_ble_eq_true rfl) ?_
        rintro r h' ⟨rfl, hE⟩
        subst h'
        exact rest _ ⟨valM_m _ _ hn4, fun v hv => by rw [valM_b _ _ (by omega) _ hn4]; unfold cB inV; simp [show 0 ≤ rC (aR A i) by omega]⟩
  have lo1 : ∀ (d i : Nat) (h1 : zH) (x K KP : Int), i + d = 8 → Fr (fun c => z ≤ c ∧ c ≤ z + 4) h h1 → ShP h1 z → StOK h1 a A → gL h1 z 5 = x → gL h1 z 6 = K → gL h1 z 7 = KP → (gI h1 z 9 = -1 ∧ gI h1 z 10 = gI h z 10 ∧ gR h1 = gR h) → InL x → (∀ j, j < 64 → lb x j = pubF A i j) → (∀ j, j < 64 → lb K j = kepF A i j) → (∀ j, j < 64 → lb KP j = kprF A i j) → z_X l G mtX2_load lv 0 0 (QQ) 0 0 (h1) 22 [vR z, vR a, vI i, vJ, vJ, vJ] [] := by
    intro d
    induction d with
    | zero =>
      intro i h1 x K KP hi hf hs1 hS1 hx hK hKP hm1 hxL bx bK bKP
      obtain rfl : i = 8 := by omega
      have h0 := lo2 (aC A) 0 h1 (by omega) hf hs1 hS1 (by rw [hx]; exact pub_ok hxL bx) (by rw [hK, hKP]; exact kep_ok hA bK bKP) hm1 (fun r hr => by omega)
      refine z_run1 tsX2_load [134] 10 ?_
      simp (maxSteps := 1000000) -implicitDefEqProofs +contextual (disch := omega) only [z_wp_t, z_wp_u, ↓pI_e, ↓pL_e, ↓pO_e, ↓pR_e, ↓p1_I, ↓p1_O, z_gl, z_st1, z_st2, z_nl_I, z_nl_O, z_nl_J, z_nl_L, if_true, if_false, ite_true, ite_false, true_and, and_true, List.mem_cons, List.not_mem_nil, or_false, false_or, or_self, List.length_cons, List.length_nil, InR_t, InL_t, z_ix_t, mI_s1, mI_s2, ↓brT, ↓brF, ↓brT', ↓brF', mL_sI, mR_sI, mK_sI, mS_sI, mI_sL, mL_s1, mL_s2, mR_sL, mK_sL, mS_sL, mI_sR, mL_sR, mR_s1, mR_s2, mK_sR, mS_sR, mA_s1, mA_s2, mL_sA, mR_sA, mK_sA, mS_sA, ix_n, ix_a, ix_m, ix_s, z_sw, z_stop, forall_const, true_implies, false_implies, imp_self, implies_true, not_true_eq_false, not_false_eq_true, ne_eq, eq_self, Option.some.injEq, reduceCtorEq, Nat.reduceAdd, Nat.reduceSub, Nat.reduceMul, Nat.reduceEqDiff, Nat.reduceLT, Nat.reduceLeDiff, Int.reduceAdd, Int.reduceMul, Int.reduceSub, Int.reduceNeg, Int.reduceToNat, Int.reduceLT, Int.reduceLE, Int.reduceEq, ↓reduceIte, List.reverse_cons, Option.toList, List.cons_append, List.nil_append, vI_inj, vL_inj, vO_inj, rI, rL, rO, rV, mI_sQ, mL_sQ, mK_sQ, mS_sQ, mQ_s1, mQ_s2, iL_and, iL_or, iL_xor, iL_shl, iL_ushr, iR_and, iR_or, iR_xor, iR_shl, iR_shr, iR_ushr, iR_cmp, yc0, tlX2_load, tkX2_load, o_aload, o_astore, o_dup, o_getI, o_getL, o_getR, o_goto, o_iand, o_iast, o_ic, o_iceq, o_icge, o_icne, o_ifeq, o_ifnull, o_iinc, o_iload, o_imul, o_istore, o_ixor, o_lc, o_lor, o_lshl, o_lsub, o_putI, o_putL, o_vret]
      try simp +contextual (disch := omega) only [impF, impT, and_true, true_and, implies_true, not_false_eq_true, not_true_eq_false]
      exact h0
    | succ d ih =>
      intro i h1 x K KP hi hf hs1 hS1 hx hK hKP hm1 hxL bx bK bKP
      have k0 := hs1.1
      have hn4 := hA.1 i (by omega)
      have hlk := hA.2.2.2.1 i (by omega)
      refine z_run1 tsX2_load [] 20 ?_
      simp (maxSteps := 1000000) -implicitDefEqProofs +contextual (disch := omega) only [z_wp_t, z_wp_u, ↓pI_e, ↓pL_e, ↓pO_e, ↓pR_e, ↓p1_I, ↓p1_O, z_gl, z_st1, z_st2, z_nl_I, z_nl_O, z_nl_J, z_nl_L, if_true, if_false, ite_true, ite_false, true_and, and_true, List.mem_cons, List.not_mem_nil, or_false, false_or, or_self, List.length_cons, List.length_nil, InR_t, InL_t, z_ix_t, mI_s1, mI_s2, ↓brT, ↓brF, ↓brT', ↓brF', mL_sI, mR_sI, mK_sI, mS_sI, mI_sL, mL_s1, mL_s2, mR_sL, mK_sL, mS_sL, mI_sR, mL_sR, mR_s1, mR_s2, mK_sR, mS_sR, mA_s1, mA_s2, mL_sA, mR_sA, mK_sA, mS_sA, ix_n, ix_a, ix_m, ix_s, z_sw, z_stop, forall_const, true_implies, false_implies, imp_self, implies_true, not_true_eq_false, not_false_eq_true, ne_eq, eq_self, Option.some.injEq, reduceCtorEq, Nat.reduceAdd, Nat.reduceSub, Nat.reduceMul, Nat.reduceEqDiff, Nat.reduceLT, Nat.reduceLeDiff, Int.reduceAdd, Int.reduceMul, Int.reduceSub, Int.reduceNeg, Int.reduceToNat, Int.reduceLT, Int.reduceLE, Int.reduceEq, ↓reduceIte, List.reverse_cons, Option.toList, List.cons_append, List.nil_append, vI_inj, vL_inj, vO_inj, rI, rL, rO, rV, mI_sQ, mL_sQ, mK_sQ, mS_sQ, mQ_s1, mQ_s2, iL_and, iL_or, iL_xor, iL_shl, iL_ushr, iR_and, iR_or, iR_xor, iR_shl, iR_shr, iR_ushr, iR_cmp, yc0, tlX2_load, tkX2_load, o_aload, o_astore, o_dup, o_getI, o_getL, o_getR, o_goto, o_iand, o_iast, o_ic, o_iceq, o_icge, o_icne, o_ifeq, o_ifnull, o_iinc, o_iload, o_imul, o_istore, o_ixor, o_lc, o_lor, o_lshl, o_lsub, o_putI, o_putL, o_vret, k0, hx]
      try simp +contextual (disch := omega) only [impF, impT, and_true, true_and, implies_true, not_false_eq_true, not_true_eq_false]
      refine x_callV (by decide +kernel) cv_X2_44 (sp_versionCount l G h1 a i A hS1 (by omega) 2 (by omega)) hS1.1.1 (by omega) rfl (by omega) (by omega) rfl (Nat.le_of_ble_eq_true rfl) ?_
      rintro r h' ⟨rfl, hE⟩
      subst h'
      refine z_run1 tsX2_load [] 20 ?_
      simp (maxSteps := 1000000) -implicitDefEqProofs +contextual (disch := omega) only [z_wp_t, z_wp_u, ↓pI_e, ↓pL_e, ↓pO_e, ↓pR_e, ↓p1_I, ↓p1_O, z_gl, z_st1, z_st2, z_nl_I, z_nl_O, z_nl_J, z_nl_L, if_true, if_false, ite_true, ite_false, true_and, and_true, List.mem_cons, List.not_mem_nil, or_false, false_or, or_self, List.length_cons, List.length_nil, InR_t, InL_t, z_ix_t, mI_s1, mI_s2, ↓brT, ↓brF, ↓brT', ↓brF', mL_sI, mR_sI, mK_sI, mS_sI, mI_sL, mL_s1, mL_s2, mR_sL, mK_sL, mS_sL, mI_sR, mL_sR, mR_s1, mR_s2, mK_sR, mS_sR, mA_s1, mA_s2, mL_sA, mR_sA, mK_sA, mS_sA, ix_n, ix_a, ix_m, ix_s, z_sw, z_stop, forall_const, true_implies, false_implies, imp_self, implies_true, not_true_eq_false, not_false_eq_true, ne_eq, eq_self, Option.some.injEq, reduceCtorEq, Nat.reduceAdd, Nat.reduceSub, Nat.reduceMul, Nat.reduceEqDiff, Nat.reduceLT, Nat.reduceLeDiff, Int.reduceAdd, Int.reduceMul, Int.reduceSub, Int.reduceNeg, Int.reduceToNat, Int.reduceLT, Int.reduceLE, Int.reduceEq, ↓reduceIte, List.reverse_cons, Option.toList, List.cons_append, List.nil_append, vI_inj, vL_inj, vO_inj, rI, rL, rO, rV, mI_sQ, mL_sQ, mK_sQ, mS_sQ, mQ_s1, mQ_s2, iL_and, iL_or, iL_xor, iL_shl, iL_ushr, iR_and, iR_or, iR_xor, iR_shl, iR_shr, iR_ushr, iR_cmp, yc0, tlX2_load, tkX2_load, o_aload, o_astore, o_dup, o_getI, o_getL, o_getR, o_goto, o_iand, o_iast, o_ic, o_iceq, o_icge, o_icne, o_ifeq, o_ifnull, o_iinc, o_iload, o_imul, o_istore, o_ixor, o_lc, o_lor, o_lshl, o_lsub, o_putI, o_putL, o_vret, k0]
      try simp +contextual (disch := omega) only [impF, impT, and_true, true_and, implies_true, not_false_eq_true, not_true_eq_false]
      have bx' := pub_step (by omega) hn4 bx
      generalize hxx : y_or x (y_shl (y_shl 2 (aN A i : Int) - 1) (5 * (i : Int))) = x' at bx'
      have hxL' : InL x' := by rw [← hxx]; exact InL_or _ _
      have fr1 : Fr (fun c => c = z) h1 (sL h1 z 5 x') := Fr_L1 _ _ _ _
      have hS2 := hS1.o1 fr1 (by omega) (by omega)
      have hs2 : ShP (sL h1 z 5 x') z := hs1
      have e5 : gL (sL h1 z 5 x') z 5 = x' := mL_s1 _ _ _ _
      have e6 : gL (sL h1 z 5 x') z 6 = K := by rw [mL_s2 _ _ (Or.inr (by omega))]; exact hK
      have e7 : gL (sL h1 z 5 x') z 7 = KP := by rw [mL_s2 _ _ (Or.inr (by omega))]; exact hKP
      have e9 : gI (sL h1 z 5 x') z 9 = -1 ∧ gI (sL h1 z 5 x') z 10 = gI h z 10 ∧ gR (sL h1 z 5 x') = gR h := by rw [mI_sL, mR_sL]; exact hm1
      have hf2 := hf.tr' (U := fun c => z ≤ c ∧ c ≤ z + 4) fr1 (fun _ q => q) (fun c q => by omega)
      generalize hh2 : sL h1 z 5 x' = h2 at fr1 hS2 hs2 e5 e6 e7 e9 hf2
      refine x_callV (by decide +kernel) cv_X2_50 (sp_lockOf l G h2 a i A hS2 (by omega) 2 (by omega)) hS2.1.1 (by omega) rfl (by omega) (by omega) rfl (Nat.le_of_ble_eq_true rfl) ?_
      rintro r h' ⟨rfl, hE⟩
      subst h'
      refine z_run1 tsX2_load [] 20 ?_
      simp (maxSteps := 1000000) -implicitDefEqProofs +contextual (disch := omega) only [z_wp_t, z_wp_u, ↓pI_e, ↓pL_e, ↓pO_e, ↓pR_e, ↓p1_I, ↓p1_O, z_gl, z_st1, z_st2, z_nl_I, z_nl_O, z_nl_J, z_nl_L, if_true, if_false, ite_true, ite_false, true_and, and_true, List.mem_cons, List.not_mem_nil, or_false, false_or, or_self, List.length_cons, List.length_nil, InR_t, InL_t, z_ix_t, mI_s1, mI_s2, ↓brT, ↓brF, ↓brT', ↓brF', mL_sI, mR_sI, mK_sI, mS_sI, mI_sL, mL_s1, mL_s2, mR_sL, mK_sL, mS_sL, mI_sR, mL_sR, mR_s1, mR_s2, mK_sR, mS_sR, mA_s1, mA_s2, mL_sA, mR_sA, mK_sA, mS_sA, ix_n, ix_a, ix_m, ix_s, z_sw, z_stop, forall_const, true_implies, false_implies, imp_self, implies_true, not_true_eq_false, not_false_eq_true, ne_eq, eq_self, Option.some.injEq, reduceCtorEq, Nat.reduceAdd, Nat.reduceSub, Nat.reduceMul, Nat.reduceEqDiff, Nat.reduceLT, Nat.reduceLeDiff, Int.reduceAdd, Int.reduceMul, Int.reduceSub, Int.reduceNeg, Int.reduceToNat, Int.reduceLT, Int.reduceLE, Int.reduceEq, ↓reduceIte, List.reverse_cons, Option.toList, List.cons_append, List.nil_append, vI_inj, vL_inj, vO_inj, rI, rL, rO, rV, mI_sQ, mL_sQ, mK_sQ, mS_sQ, mQ_s1, mQ_s2, iL_and, iL_or, iL_xor, iL_shl, iL_ushr, iR_and, iR_or, iR_xor, iR_shl, iR_shr, iR_ushr, iR_cmp, yc0, tlX2_load, tkX2_load, o_aload, o_astore, o_dup, o_getI, o_getL, o_getR, o_goto, o_iand, o_iast, o_ic, o_iceq, o_icge, o_icne, o_ifeq, o_ifnull, o_iinc, o_iload, o_imul, o_istore, o_ixor, o_lc, o_lor, o_lshl, o_lsub, o_putI, o_putL, o_vret]
      try simp +contextual (disch := omega) only [impF, impT, and_true, true_and, implies_true, not_false_eq_true, not_true_eq_false]
      refine x_callV (by decide +kernel) cv_X2_53 (sp_placeOf l G h2 a i (aL A i) A hS2 hA (by omega) (by unfold InR; omega) 2 (by omega)) hS2.1.1 (by omega) rfl (by omega) (by omega) rfl (Nat.le_of_ble_eq_true rfl) ?_
      rintro r h' ⟨rfl, hE⟩
      subst h'
      have k0' := hs2.1
      have b1 : ∀ j, j < 64 → lb (y_shl 1 (5 * (i : Int))) j = decide (j = 5 * i + 0) := fun j hj => by
        rw [lb_shl5 _ (by omega) hj, lb_1]
        by_cases q : j = 5 * i
        · simp [q]
        · simp [q] <;> omega
      by_cases hL1 : aL A i = -1
      · have bK' := bit_step (kep_g A) bK (by omega) b1 (kP_none hA (by omega) hL1)
        have bKP' := bit_same (kpr_g A) bKP (fun v hv => by simp [kqf, kpP, hL1])
        have hnx := ih (i + 1) (sL h2 z 6 (y_or K (y_shl 1 (5 * (i : Int))))) x' _ KP (by omega) (hf2.tr' (Fr_L1 _ _ _ _) (fun _ q => q) (fun c q => by omega)) (hs2.L _ _ _) (hS2.o1 (Fr_L1 _ _ _ _) (by omega) (by omega)) (by rw [mL_s2 _ _ (Or.inr (by omega))]; exact e5) (mL_s1 _ _ _ _) (by rw [mL_s2 _ _ (Or.inr (by omega))]; exact e7) (by rw [mI_sL, mR_sL]; exact e9) hxL' bx' bK' bKP'
        refine z_run1 tsX2_load [22] 30 ?_
        simp (maxSteps := 1000000) -implicitDefEqProofs +contextual (disch := omega) only [z_wp_t, z_wp_u, ↓pI_e, ↓pL_e, ↓pO_e, ↓pR_e, ↓p1_I, ↓p1_O, z_gl, z_st1, z_st2, z_nl_I, z_nl_O, z_nl_J, z_nl_L, if_true, if_false, ite_true, ite_false, true_and, and_true, List.mem_cons, List.not_mem_nil, or_false, false_or, or_self, List.length_cons, List.length_nil, InR_t, InL_t, z_ix_t, mI_s1, mI_s2, ↓brT, ↓brF, ↓brT', ↓brF', mL_sI, mR_sI, mK_sI, mS_sI, mI_sL, mL_s1, mL_s2, mR_sL, mK_sL, mS_sL, mI_sR, mL_sR, mR_s1, mR_s2, mK_sR, mS_sR, mA_s1, mA_s2, mL_sA, mR_sA, mK_sA, mS_sA, ix_n, ix_a, ix_m, ix_s, z_sw, z_stop, forall_const, true_implies, false_implies, imp_self, implies_true, not_true_eq_false, not_false_eq_true, ne_eq, eq_self, Option.some.injEq, reduceCtorEq, Nat.reduceAdd, Nat.reduceSub, Nat.reduceMul, Nat.reduceEqDiff, Nat.reduceLT, Nat.reduceLeDiff, Int.reduceAdd, Int.reduceMul, Int.reduceSub, Int.reduceNeg, Int.reduceToNat, Int.reduceLT, Int.reduceLE, Int.reduceEq, ↓reduceIte, List.reverse_cons, Option.toList, List.cons_append, List.nil_append, vI_inj, vL_inj, vO_inj, rI, rL, rO, rV, mI_sQ, mL_sQ, mK_sQ, mS_sQ, mQ_s1, mQ_s2, iL_and, iL_or, iL_xor, iL_shl, iL_ushr, iR_and, iR_or, iR_xor, iR_shl, iR_shr, iR_ushr, iR_cmp, yc0, tlX2_load, tkX2_load, o_aload, o_astore, o_dup, o_getI, o_getL, o_getR, o_goto, o_iand, o_iast, o_ic, o_iceq, o_icge, o_icne, o_ifeq, o_ifnull, o_iinc, o_iload, o_imul, o_istore, o_ixor, o_lc, o_lor, o_lshl, o_lsub, o_putI, o_putL, o_vret, k0', hL1, e6]
        try simp +contextual (disch := omega) only [impF, impT, and_true, true_and, implies_true, not_false_eq_true, not_true_eq_false]
        refine x_wk [vR z, vR a, vI ((i + 1 : Nat) : Int), vJ, vJ, vJ] (by simp [z_wk]) ?_
        exact hnx
      · by_cases hpl : fIx (aV A i) (aL A i) (aN A i) 0 = -1
        · have bK' := bit_same (kep_g A) bK (kP_no hL1 hpl)
          have bKP' := bit_same (kpr_g A) bKP (fun v hv => by simp [kqf, kpP, hpl])
          have hnx := ih (i + 1) h2 x' K KP (by omega) hf2 hs2 hS2 e5 e6 e7 e9 hxL' bx' bK' bKP'
          rw [hpl]
          refine z_run1 tsX2_load [22] 30 ?_
          simp (maxSteps := 1000000) -implicitDefEqProofs +contextual (disch := omega) only [z_wp_t, z_wp_u, ↓pI_e, ↓pL_e, ↓pO_e, ↓pR_e, ↓p1_I, ↓p1_O, z_gl, z_st1, z_st2, z_nl_I, z_nl_O, z_nl_J, z_nl_L, if_true, if_false, ite_true, ite_false, true_and, and_true, List.mem_cons, List.not_mem_nil, or_false, false_or, or_self, List.length_cons, List.length_nil, InR_t, InL_t, z_ix_t, mI_s1, mI_s2, ↓brT, ↓brF, ↓brT', ↓brF', mL_sI, mR_sI, mK_sI, mS_sI, mI_sL, mL_s1, mL_s2, mR_sL, mK_sL, mS_sL, mI_sR, mL_sR, mR_s1, mR_s2, mK_sR, mS_sR, mA_s1, mA_s2, mL_sA, mR_sA, mK_sA, mS_sA, ix_n, ix_a, ix_m, ix_s, z_sw, z_stop, forall_const, true_implies, false_implies, imp_self, implies_true, not_true_eq_false, not_false_eq_true, ne_eq, eq_self, Option.some.injEq, reduceCtorEq, Nat.reduceAdd, Nat.reduceSub, Nat.reduceMul, Nat.reduceEqDiff, Nat.reduceLT, Nat.reduceLeDiff, Int.reduceAdd, Int.reduceMul, Int.reduceSub, Int.reduceNeg, Int.reduceToNat, Int.reduceLT, Int.reduceLE, Int.reduceEq, ↓reduceIte, List.reverse_cons, Option.toList, List.cons_append, List.nil_append, vI_inj, vL_inj, vO_inj, rI, rL, rO, rV, mI_sQ, mL_sQ, mK_sQ, mS_sQ, mQ_s1, mQ_s2, iL_and, iL_or, iL_xor, iL_shl, iL_ushr, iR_and, iR_or, iR_xor, iR_shl, iR_shr, iR_ushr, iR_cmp, yc0, tlX2_load, tkX2_load, o_aload, o_astore, o_dup, o_getI, o_getL, o_getR, o_goto, o_iand, o_iast, o_ic, o_iceq, o_icge, o_icne, o_ifeq, o_ifnull, o_iinc, o_iload, o_imul, o_istore, o_ixor, o_lc, o_lor, o_lshl, o_lsub, o_putI, o_putL, o_vret, k0']
          try simp +contextual (disch := omega) only [impF, impT, and_true, true_and, implies_true, not_false_eq_true, not_true_eq_false]
          refine x_wk [vR z, vR a, vI ((i + 1 : Nat) : Int), vJ, vJ, vJ] (by simp [z_wk]) ?_
          exact hnx
        · obtain ⟨g1, g2, g3⟩ := fIx_some rfl hpl
          obtain ⟨k, hk⟩ := Int.eq_ofNat_of_zero_le (a := fIx (aV A i) (aL A i) (aN A i) 0) (by omega)
          have b2 : ∀ j, j < 64 → lb (y_shl (y_shl 2 (k : Int)) (5 * (i : Int))) j = decide (j = 5 * i + (k + 1)) := fun j hj => by
            rw [lb_shl5 _ (by omega) hj, b_two _ (by omega) _ (by omega)]
            by_cases q : j = 5 * i + (k + 1)
            · simp [q] <;> omega
            · simp [q] <;> omega
          have bK' := bit_step (kep_g A) bK (by omega) b2 (kP_some hA (by omega) hL1 hk)
          have bKP' := bit_step (kpr_g A) bKP (by omega) b1 (fun v hv => by simp [kqf, kpP, hL1, hpl])
          have hnx := ih (i + 1) (sL (sL h2 z 6 (y_or K (y_shl (y_shl 2 (k : Int)) (5 * (i : Int))))) z 7 (y_or KP (y_shl 1 (5 * (i : Int))))) x' _ _ (by omega) ((hf2.tr' (Fr_L1 _ _ _ _) (fun _ q => q) (fun c q => by omega)).tr' (Fr_L1 _ _ _ _) (fun _ q => q) (fun c q => by omega)) ((hs2.L _ _ _).L _ _ _) ((hS2.o1 (Fr_L1 _ _ _ _) (by omega) (by omega)).o1 (Fr_L1 _ _ _ _) (by omega) (by omega)) (by rw [mL_s2 _ _ (Or.inr (by omega)), mL_s2 _ _ (Or.inr (by omega))]; exact e5) (by rw [mL_s2 _ _ (Or.inr (by omega)), mL_s1]) (mL_s1 _ _ _ _) (by rw [mI_sL, mI_sL, mR_sL, mR_sL]; exact e9) hxL' bx' bK' bKP'
          rw [hk]
          refine z_run1 tsX2_load [22] 40 ?_
          simp (maxSteps := 1000000) -implicitDefEqProofs +contextual (disch := omega) only [z_wp_t, z_wp_u, ↓pI_e, ↓pL_e, ↓pO_e, ↓pR_e, ↓p1_I, ↓p1_O, z_gl, z_st1, z_st2, z_nl_I, z_nl_O, z_nl_J, z_nl_L, if_true, if_false, ite_true, ite_false, true_and, and_true, List.mem_cons, List.not_mem_nil, or_false, false_or, or_self, List.length_cons, List.length_nil, InR_t, InL_t, z_ix_t, mI_s1, mI_s2, ↓brT, ↓brF, ↓brT', ↓brF', mL_sI, mR_sI, mK_sI, mS_sI, mI_sL, mL_s1, mL_s2, mR_sL, mK_sL, mS_sL, mI_sR, mL_sR, mR_s1, mR_s2, mK_sR, mS_sR, mA_s1, mA_s2, mL_sA, mR_sA, mK_sA, mS_sA, ix_n, ix_a, ix_m, ix_s, z_sw, z_stop, forall_const, true_implies, false_implies, imp_self, implies_true, not_true_eq_false, not_false_eq_true, ne_eq, eq_self, Option.some.injEq, reduceCtorEq, Nat.reduceAdd, Nat.reduceSub, Nat.reduceMul, Nat.reduceEqDiff, Nat.reduceLT, Nat.reduceLeDiff, Int.reduceAdd, Int.reduceMul, Int.reduceSub, Int.reduceNeg, Int.reduceToNat, Int.reduceLT, Int.reduceLE, Int.reduceEq, ↓reduceIte, List.reverse_cons, Option.toList, List.cons_append, List.nil_append, vI_inj, vL_inj, vO_inj, rI, rL, rO, rV, mI_sQ, mL_sQ, mK_sQ, mS_sQ, mQ_s1, mQ_s2, iL_and, iL_or, iL_xor, iL_shl, iL_ushr, iR_and, iR_or, iR_xor, iR_shl, iR_shr, iR_ushr, iR_cmp, yc0, tlX2_load, tkX2_load, o_aload, o_astore, o_dup, o_getI, o_getL, o_getR, o_goto, o_iand, o_iast, o_ic, o_iceq, o_icge, o_icne, o_ifeq, o_ifnull, o_iinc, o_iload, o_imul, o_istore, o_ixor, o_lc, o_lor, o_lshl, o_lsub, o_putI, o_putL, o_vret, k0', e6, e7]
          try simp +contextual (disch := omega) only [impF, impT, and_true, true_and, implies_true, not_false_eq_true, not_true_eq_false]
          refine x_wk [vR z, vR a, vI ((i + 1 : Nat) : Int), vJ, vJ, vJ] (by simp [z_wk]) ?_
          exact hnx
  have k0 := hsh.1
  have hfr0 : Fr (fun c => c = z) h (sL (sL (sL (sI h z 9 (-1)) z 5 0) z 6 0) z 7 0) := ((((Fr_I1 _ _ _ _).tr' (Fr_L1 _ _ _ _) (fun _ q => q) (fun _ q => q)).tr' (Fr_L1 _ _ _ _) (fun _ q => q) (fun _ q => q)).tr' (Fr_L1 _ _ _ _) (fun _ q => q) (fun _ q => q))
  have h0 := lo1 8 0 (sL (sL (sL (sI h z 9 (-1)) z 5 0) z 6 0) z 7 0) 0 0 0 (by omega) (hfr0.mono (fun c q => by omega)) hsh (hS.o1 hfr0 (by omega) (by omega)) (by rw [mL_s2 _ _ (Or.inr (by omega)), mL_s2 _ _ (Or.inr (by omega)), mL_s1]) (by rw [mL_s2 _ _ (Or.inr (by omega)), mL_s1]) (mL_s1 _ _ _ _) ⟨by rw [mI_sL, mI_sL, mI_sL, mI_s1], by rw [mI_sL, mI_sL, mI_sL, mI_s2 _ _ (Or.inr (by omega))], rfl⟩ (by unfold InL; omega) (fun j hj => by rw [lb_0]; unfold pubF; simp) (fun j hj => by rw [lb_0]; unfold kepF; simp) (fun j hj => by rw [lb_0]; unfold kprF; simp)
  refine z_run1 tsX2_load [22] 30 ?_
  simp (maxSteps := 1000000) -implicitDefEqProofs +contextual (disch := omega) only [z_wp_t, z_wp_u, ↓pI_e, ↓pL_e, ↓pO_e, ↓pR_e, ↓p1_I, ↓p1_O, z_gl, z_st1, z_st2, z_nl_I, z_nl_O, z_nl_J, z_nl_L, if_true, if_false, ite_true, ite_false, true_and, and_true, List.mem_cons, List.not_mem_nil, or_false, false_or, or_self, List.length_cons, List.length_nil, InR_t, InL_t, z_ix_t, mI_s1, mI_s2, ↓brT, ↓brF, ↓brT', ↓brF', mL_sI, mR_sI, mK_sI, mS_sI, mI_sL, mL_s1, mL_s2, mR_sL, mK_sL, mS_sL, mI_sR, mL_sR, mR_s1, mR_s2, mK_sR, mS_sR, mA_s1, mA_s2, mL_sA, mR_sA, mK_sA, mS_sA, ix_n, ix_a, ix_m, ix_s, z_sw, z_stop, forall_const, true_implies, false_implies, imp_self, implies_true, not_true_eq_false, not_false_eq_true, ne_eq, eq_self, Option.some.injEq, reduceCtorEq, Nat.reduceAdd, Nat.reduceSub, Nat.reduceMul, Nat.reduceEqDiff, Nat.reduceLT, Nat.reduceLeDiff, Int.reduceAdd, Int.reduceMul, Int.reduceSub, Int.reduceNeg, Int.reduceToNat, Int.reduceLT, Int.reduceLE, Int.reduceEq, ↓reduceIte, List.reverse_cons, Option.toList, List.cons_append, List.nil_append, vI_inj, vL_inj, vO_inj, rI, rL, rO, rV, mI_sQ, mL_sQ, mK_sQ, mS_sQ, mQ_s1, mQ_s2, iL_and, iL_or, iL_xor, iL_shl, iL_ushr, iR_and, iR_or, iR_xor, iR_shl, iR_shr, iR_ushr, iR_cmp, yc0, tlX2_load, tkX2_load, o_aload, o_astore, o_dup, o_getI, o_getL, o_getR, o_goto, o_iand, o_iast, o_ic, o_iceq, o_icge, o_icne, o_ifeq, o_ifnull, o_iinc, o_iload, o_imul, o_istore, o_ixor, o_lc, o_lor, o_lshl, o_lsub, o_putI, o_putL, o_vret, k0]
  try simp +contextual (disch := omega) only [impF, impT, and_true, true_and, implies_true, not_false_eq_true, not_true_eq_false]
  exact h0
