/-! Puzzle.narrowedSpots: what the rules leave directly -/
def nr1 (A : zA) (r : Nat) (X : Nat → Nat → Bool) (p v : Nat) : Bool := X p v && !((decide (rC (aR A r) = -1) || allN (fun v => !X (rCn A r) v || cB A r v) 5) && (decide (p = rTn A r) && !hB A r v))
def nr2 (A : zA) (r : Nat) (X : Nat → Nat → Bool) (p v : Nat) : Bool := X p v && !((decide (rC (aR A r) ≠ -1) && allN (fun v => !X (rTn A r) v || !hB A r v) 5) && (decide (p = rCn A r) && cB A r v))
def narR (A : zA) (r : Nat) (X : Nat → Nat → Bool) : Nat → Nat → Bool := nr2 A r (nr1 A r X)
def narP (A : zA) (S : Nat → Bool) (X : Nat → Nat → Bool) : Nat → Nat → Nat → Bool
  | 0 => X
  | n + 1 => if S n then narR A n (narP A S X n) else narP A S X n
def narI (A : zA) (S : Nat → Bool) : Nat → Nat → Nat → Bool
  | 0 => fun p v => decide (v ≤ aN A p)
  | k + 1 => narP A S (narI A S k) 20
def eqX (X Y : Nat → Nat → Bool) : Prop := ∀ p v, p < 8 → v < 5 → X p v = Y p v
def NarOK (A : zA) (S : Nat → Bool) (X : Nat → Nat → Bool) : Prop := (∃ k, eqX X (narI A S k)) ∧ eqX (narP A S X 20) X
theorem eqX.sym {X Y : Nat → Nat → Bool} (h : eqX X Y) : eqX Y X := fun p v hp hv => (h p v hp hv).symm
theorem eqX.tr {X Y Z : Nat → Nat → Bool} (h : eqX X Y) (g : eqX Y Z) : eqX X Z := fun p v hp hv => (h p v hp hv).trans (g p v hp hv)
theorem allN_congr {f g : Nat → Bool} : ∀ {n : Nat}, (∀ i, i < n → f i = g i) → allN f n = allN g n
  | 0, _ => rfl
  | n + 1, h => by simp only [allN, allN_congr (n := n) (fun i hi => h i (by omega)), h n (by omega)]
theorem RuA.lt {A : zA} {r : Nat} (h : RuA (aR A r)) : rTn A r < 8 ∧ rCn A r < 8 := by
  unfold RuA at h
  unfold rTn rCn
  omega
theorem nr1_c {A : zA} {r : Nat} {X Y : Nat → Nat → Bool} (hr : RuA (aR A r)) (h : eqX X Y) : eqX (nr1 A r X) (nr1 A r Y) := by
  intro p v hp hv
  unfold nr1
  rw [h p v hp hv, allN_congr (n := 5) (f := fun v => !X (rCn A r) v || cB A r v) (g := fun v => !Y (rCn A r) v || cB A r v) (fun i hi => by rw [h _ i hr.lt.2 hi])]
theorem nr2_c {A : zA} {r : Nat} {X Y : Nat → Nat → Bool} (hr : RuA (aR A r)) (h : eqX X Y) : eqX (nr2 A r X) (nr2 A r Y) := by
  intro p v hp hv
  unfold nr2
  rw [h p v hp hv, allN_congr (n := 5) (f := fun v => !X (rTn A r) v || !hB A r v) (g := fun v => !Y (rTn A r) v || !hB A r v) (fun i hi => by rw [h _ i hr.lt.1 hi])]
theorem narP_c {A : zA} {S : Nat → Bool} {X Y : Nat → Nat → Bool} (hA : AOK A) (hS : ∀ r, S r = true → r < aC A) (h : eqX X Y) : ∀ n, eqX (narP A S X n) (narP A S Y n)
  | 0 => h
  | n + 1 => by
    simp only [narP]
    by_cases q : S n = true
    · rw [if_pos q, if_pos q]
      have hr := hA.2.2.2.2.2.2 n (hS n q)
      exact nr2_c hr (nr1_c hr (narP_c hA hS h n))
    · rw [if_neg q, if_neg q]
      exact narP_c hA hS h n
theorem nar_fix {A : zA} {S : Nat → Bool} {X : Nat → Nat → Bool} (hA : AOK A) (hS : ∀ r, S r = true → r < aC A) {k : Nat} (h1 : eqX X (narI A S k)) (h2 : eqX (narP A S X 20) X) : ∀ e, eqX (narI A S (k + e)) X
  | 0 => h1.sym
  | e + 1 => (narP_c hA hS (nar_fix hA hS h1 h2 e) 20).tr h2
theorem nar_uniq {A : zA} {S : Nat → Bool} {X Y : Nat → Nat → Bool} (hA : AOK A) (hS : ∀ r, S r = true → r < aC A) (hX : NarOK A S X) (hY : NarOK A S Y) : eqX X Y := by
  obtain ⟨⟨k, h1⟩, h2⟩ := hX
  obtain ⟨⟨j, g1⟩, g2⟩ := hY
  have a := nar_fix hA hS h1 h2 j
  have b := nar_fix hA hS g1 g2 k
  rw [Nat.add_comm] at b
  exact a.sym.tr b
theorem nr_sub {A : zA} {r : Nat} {X : Nat → Nat → Bool} {p v : Nat} (h : narR A r X p v = true) : X p v = true := by
  unfold narR nr2 nr1 at h
  simp only [Bool.and_eq_true] at h
  exact h.1.1
theorem narP_sub {A : zA} {S : Nat → Bool} {X : Nat → Nat → Bool} {p v : Nat} : ∀ n, narP A S X n p v = true → X p v = true
  | 0, h => h
  | n + 1, h => by
    simp only [narP] at h
    split at h
    · exact narP_sub n (nr_sub h)
    · exact narP_sub n h
def bX (x : Int) (X : Nat → Nat → Bool) : Prop := InL x ∧ (∀ p v, p < 8 → v < 5 → lb x (5 * p + v) = X p v) ∧ ∀ j, 40 ≤ j → lb x j = false
theorem bX_all {x : Int} {X : Nat → Nat → Bool} (h : bX x X) {p : Nat} (hp : p < 8) {c : Int} {f : Nat → Bool} (hc : msk c f) : z_and (vsO x p) c = 0 ↔ allN (fun v => !X p v || !f v) 5 = true := by
  rw [z_and0, allN_iff]
  constructor
  · intro q v hv
    have := q v (by omega)
    rw [vsO_b x hp (by omega), h.2.1 p v hp hv, hc.2 v hv] at this
    simp [hv] at this
    simp
    cases hx : X p v
    · simp
    · right; simpa using this hx
  · intro q i hi
    rw [vsO_b x hp hi]
    by_cases q5 : i < 5
    · have := q i q5
      rw [h.2.1 p i hp q5, hc.2 i q5]
      simp [q5]
      intro hx
      simpa [hx] using this
    · simp [q5]
theorem bX_all2 {x : Int} {X : Nat → Nat → Bool} (h : bX x X) {p : Nat} (hp : p < 8) {c : Int} {f : Nat → Bool} (hc : msk c f) : z_and (vsO x p) (z_xor c (-1)) = 0 ↔ allN (fun v => !X p v || f v) 5 = true := by
  rw [z_and0, allN_iff]
  constructor
  · intro q v hv
    have := q v (by omega)
    rw [vsO_b x hp (by omega), h.2.1 p v hp hv, tb_not _ (by omega), hc.2 v hv] at this
    simp [hv] at this
    simp
    cases hx : X p v
    · simp
    · right; simpa using this hx
  · intro q i hi
    rw [vsO_b x hp hi]
    by_cases q5 : i < 5
    · have := q i q5
      rw [h.2.1 p i hp q5, tb_not _ hi, hc.2 i q5]
      simp [q5]
      intro hx
      simpa [hx] using this
    · simp [q5]
theorem bX_cut {x : Int} {X : Nat → Nat → Bool} (h : bX x X) {t : Nat} (ht : t < 8) {c : Int} {f : Nat → Bool} (hc : msk c f) : bX (y_and x (y_xor (y_shl c (5 * (t : Int))) (-1))) (fun p v => X p v && !(decide (p = t) && f v)) := by
  refine ⟨InL_and _ _, fun p v hp hv => ?_, fun j hj => by rw [lb_and, h.2.2 j hj]; rfl⟩
  rw [lb_and, h.2.1 p v hp hv, lb_not _ (by omega), spotB hc ht hp hv]
theorem bX_c {x : Int} {X Y : Nat → Nat → Bool} (h : bX x X) (he : eqX X Y) : bX x Y := ⟨h.1, fun p v hp hv => (h.2.1 p v hp hv).trans (he p v hp hv), h.2.2⟩
set_option maxRecDepth 4000 in
set_option maxHeartbeats 4000000 in
theorem sp_narrowByRule (l : Launch) (G : zG) (h : zH) (z r : Nat) (x : Int) (X : Nat → Nat → Bool) (A : zA) (hsh : ShP h z) (hD : PzR h z A r) (hru : RuA (aR A r)) (hr : r < 20) (hx : bX x X) (lv : Nat) (hlv : 2 ≤ lv) : z_Sp l G mtX2_narrowByRule lv 0 0 [vR z, vI r, vL x] (h) (fun q h' => h' = h ∧ ∃ y, q = some (vL y) ∧ bX y (narR A r X)) := by
  obtain ⟨k0, k1, k2, k3, k4, k5, r0, r1, r2, r3, r4⟩ := hsh
  obtain ⟨d1, d2, d3, d4⟩ := hD
  obtain ⟨hT8, hC8⟩ := hru.lt
  unfold RuA at hru
  generalize hcv : gI h (z + 2) r = cv at d2
  generalize hho : gI h (z + 4) r = ho at d4
  have hfl := msk_not d4
  have eT : rT (aR A r) = ((rTn A r : Nat) : Int) := by unfold rTn; omega
  rw [eT] at d3
  have hcr := d2.1
  have s1 : bX (y_and x (y_xor (y_shl (z_and 31 (z_xor ho (-1))) (5 * ((rTn A r : Nat) : Int))) (-1))) (fun p v => X p v && !(decide (p = rTn A r) && !hB A r v)) := bX_cut hx hT8 hfl
  generalize hy1 : y_and x (y_xor (y_shl (z_and 31 (z_xor ho (-1))) (5 * ((rTn A r : Nat) : Int))) (-1)) = y1 at s1
  refine x_enter [vR z, vI r, vL x, vJ, vJ, vJ, vJ, vJ, vJ, vJ] (by decide +kernel) (by omega) rfl (Nat.le_of_ble_eq_true rfl) ?_
  generalize hQ : (fun (q : Option zV) (h' : zH) => h' = h ∧ ∃ y, q = some (vL y) ∧ bX y (narR A r X)) = QQ
  by_cases hc : rC (aR A r) = -1
  · refine z_run1 tsX2_narrowByRule [] 60 ?_
    simp (maxSteps := 1000000) -implicitDefEqProofs +contextual (disch := omega) only [z_wp_t, z_wp_u, ↓pI_e, ↓pL_e, ↓pO_e, ↓pR_e, ↓p1_I, ↓p1_O, z_gl, z_st1, z_st2, z_nl_I, z_nl_O, z_nl_J, z_nl_L, if_true, if_false, ite_true, ite_false, true_and, and_true, List.mem_cons, List.not_mem_nil, or_false, false_or, or_self, List.length_cons, List.length_nil, InR_t, InL_t, z_ix_t, mI_s1, mI_s2, ↓brT, ↓brF, ↓brT', ↓brF', mL_sI, mR_sI, mK_sI, mS_sI, mI_sL, mL_s1, mL_s2, mR_sL, mK_sL, mS_sL, mI_sR, mL_sR, mR_s1, mR_s2, mK_sR, mS_sR, mA_s1, mA_s2, mL_sA, mR_sA, mK_sA, mS_sA, ix_n, ix_a, ix_m, ix_s, z_sw, z_stop, forall_const, true_implies, false_implies, imp_self, implies_true, not_true_eq_false, not_false_eq_true, ne_eq, eq_self, Option.some.injEq, reduceCtorEq, Nat.reduceAdd, Nat.reduceSub, Nat.reduceMul, Nat.reduceEqDiff, Nat.reduceLT, Nat.reduceLeDiff, Int.reduceAdd, Int.reduceMul, Int.reduceSub, Int.reduceNeg, Int.reduceToNat, Int.reduceLT, Int.reduceLE, Int.reduceEq, ↓reduceIte, List.reverse_cons, Option.toList, List.cons_append, List.nil_append, vI_inj, vL_inj, vO_inj, rI, rL, rO, rV, mI_sQ, mL_sQ, mK_sQ, mS_sQ, mQ_s1, mQ_s2, iL_and, iL_or, iL_xor, iL_shl, iL_ushr, iR_and, iR_or, iR_xor, iR_shl, iR_shr, iR_ushr, iR_cmp, yc0, tlX2_narrowByRule, tkX2_narrowByRule, o_aload, o_getR, o_i2l, o_iald, o_iand, o_ic, o_iceq, o_ifne, o_iload, o_imul, o_istore, o_ixor, o_land, o_lc, o_lload, o_lret, o_lshl, o_lstore, o_lxor, k0, k1, k2, k3, k4, r0, r1, r2, r3, d1, d3, hcv, hho, hc, hy1]
    try simp +contextual (disch := omega) only [impF, impT, and_true, true_and, implies_true, not_false_eq_true, not_true_eq_false]
    rw [← hQ]
    refine ⟨rfl, y1, rfl, bX_c s1 (fun p v hp hv => ?_)⟩
    unfold narR nr2 nr1
    simp [hc]
  · have eC : rC (aR A r) = ((rCn A r : Nat) : Int) := by unfold rCn; omega
    have hcv2 : msk cv (cB A r) := msk_congr (fun v hv => by simp [show 0 ≤ rC (aR A r) by omega]) d2
    have hd1 : gI h (z + 1) r = ((rCn A r : Nat) : Int) := by rw [d1, eC]
    have a1 := bX_all2 hx hC8 hcv2
    generalize htt : rTn A r = t at *
    generalize hcc : rCn A r = c at *
    refine z_run1 tsX2_narrowByRule [] 60 ?_
    simp (maxSteps := 1000000) -implicitDefEqProofs +contextual (disch := omega) only [z_wp_t, z_wp_u, ↓pI_e, ↓pL_e, ↓pO_e, ↓pR_e, ↓p1_I, ↓p1_O, z_gl, z_st1, z_st2, z_nl_I, z_nl_O, z_nl_J, z_nl_L, if_true, if_false, ite_true, ite_false, true_and, and_true, List.mem_cons, List.not_mem_nil, or_false, false_or, or_self, List.length_cons, List.length_nil, InR_t, InL_t, z_ix_t, mI_s1, mI_s2, ↓brT, ↓brF, ↓brT', ↓brF', mL_sI, mR_sI, mK_sI, mS_sI, mI_sL, mL_s1, mL_s2, mR_sL, mK_sL, mS_sL, mI_sR, mL_sR, mR_s1, mR_s2, mK_sR, mS_sR, mA_s1, mA_s2, mL_sA, mR_sA, mK_sA, mS_sA, ix_n, ix_a, ix_m, ix_s, z_sw, z_stop, forall_const, true_implies, false_implies, imp_self, implies_true, not_true_eq_false, not_false_eq_true, ne_eq, eq_self, Option.some.injEq, reduceCtorEq, Nat.reduceAdd, Nat.reduceSub, Nat.reduceMul, Nat.reduceEqDiff, Nat.reduceLT, Nat.reduceLeDiff, Int.reduceAdd, Int.reduceMul, Int.reduceSub, Int.reduceNeg, Int.reduceToNat, Int.reduceLT, Int.reduceLE, Int.reduceEq, ↓reduceIte, List.reverse_cons, Option.toList, List.cons_append, List.nil_append, vI_inj, vL_inj, vO_inj, rI, rL, rO, rV, mI_sQ, mL_sQ, mK_sQ, mS_sQ, mQ_s1, mQ_s2, iL_and, iL_or, iL_xor, iL_shl, iL_ushr, iR_and, iR_or, iR_xor, iR_shl, iR_shr, iR_ushr, iR_cmp, yc0, tlX2_narrowByRule, tkX2_narrowByRule, o_aload, o_getR, o_i2l, o_iald, o_iand, o_ic, o_iceq, o_ifne, o_iload, o_imul, o_istore, o_ixor, o_land, o_lc, o_lload, o_lret, o_lshl, o_lstore, o_lxor, k0, k1, k2, k3, k4, r0, r1, r2, r3, hd1, d3, hcv, hho]
    try simp +contextual (disch := omega) only [impF, impT, and_true, true_and, implies_true, not_false_eq_true, not_true_eq_false]
    refine x_callS (by decide +kernel) cv_X2_86 (sp_valuesOf l G _ x c 1 (by omega)) (by omega) rfl (by omega) (by omega) rfl (Nat.le_of_ble_eq_true rfl) ?_
    rintro r h' ⟨rfl, hE⟩
    subst h'
    have rest : ∀ (y : Int) (Y : Nat → Nat → Bool), bX y Y → (∀ p v, Y p v = nr1 A r X p v) → z_X l G mtX2_narrowByRule lv 0 0 (QQ) 0 0 (h) 78 [vR z, vI r, vL x, vJ, vL y, vJ, vI t, vI ho, vI c, vI cv] [] := by
      intro y Y hY hYe
      have a2 := bX_all hY hT8 d4
      have s2 := bX_cut hY hC8 hcv2
      generalize hy2 : y_and y (y_xor (y_shl cv (5 * (c : Int))) (-1)) = y2 at s2
      refine z_run1 tsX2_narrowByRule [] 60 ?_
      simp (maxSteps := 1000000) -implicitDefEqProofs +contextual (disch := omega) only [z_wp_t, z_wp_u, ↓pI_e, ↓pL_e, ↓pO_e, ↓pR_e, ↓p1_I, ↓p1_O, z_gl, z_st1, z_st2, z_nl_I, z_nl_O, z_nl_J, z_nl_L, if_true, if_false, ite_true, ite_false, true_and, and_true, List.mem_cons, List.not_mem_nil, or_false, false_or, or_self, List.length_cons, List.length_nil, InR_t, InL_t, z_ix_t, mI_s1, mI_s2, ↓brT, ↓brF, ↓brT', ↓brF', mL_sI, mR_sI, mK_sI, mS_sI, mI_sL, mL_s1, mL_s2, mR_sL, mK_sL, mS_sL, mI_sR, mL_sR, mR_s1, mR_s2, mK_sR, mS_sR, mA_s1, mA_s2, mL_sA, mR_sA, mK_sA, mS_sA, ix_n, ix_a, ix_m, ix_s, z_sw, z_stop, forall_const, true_implies, false_implies, imp_self, implies_true, not_true_eq_false, not_false_eq_true, ne_eq, eq_self, Option.some.injEq, reduceCtorEq, Nat.reduceAdd, Nat.reduceSub, Nat.reduceMul, Nat.reduceEqDiff, Nat.reduceLT, Nat.reduceLeDiff, Int.reduceAdd, Int.reduceMul, Int.reduceSub, Int.reduceNeg, Int.reduceToNat, Int.reduceLT, Int.reduceLE, Int.reduceEq, ↓reduceIte, List.reverse_cons, Option.toList, List.cons_append, List.nil_append, vI_inj, vL_inj, vO_inj, rI, rL, rO, rV, mI_sQ, mL_sQ, mK_sQ, mS_sQ, mQ_s1, mQ_s2, iL_and, iL_or, iL_xor, iL_shl, iL_ushr, iR_and, iR_or, iR_xor, iR_shl, iR_shr, iR_ushr, iR_cmp, yc0, tlX2_narrowByRule, tkX2_narrowByRule, o_aload, o_getR, o_i2l, o_iald, o_iand, o_ic, o_iceq, o_ifne, o_iload, o_imul, o_istore, o_ixor, o_land, o_lc, o_lload, o_lret, o_lshl, o_lstore, o_lxor]
      try simp +contextual (disch := omega) only [impF, impT, and_true, true_and, implies_true, not_false_eq_true, not_true_eq_false]
      refine x_callS (by decide +kernel) cv_X2_86 (sp_valuesOf l G _ y t 1 (by omega)) (by omega) rfl (by omega) (by omega) rfl (Nat.le_of_ble_eq_true rfl) ?_
      rintro r h' ⟨rfl, hE⟩
      subst h'
      by_cases hz : z_and (vsO y t) ho = 0
      · have hal := a2.mp hz
        refine z_run1 tsX2_narrowByRule [] 60 ?_
        simp (maxSteps := 1000000) -implicitDefEqProofs +contextual (disch := omega) only [z_wp_t, z_wp_u, ↓pI_e, ↓pL_e, ↓pO_e, ↓pR_e, ↓p1_I, ↓p1_O, z_gl, z_st1, z_st2, z_nl_I, z_nl_O, z_nl_J, z_nl_L, if_true, if_false, ite_true, ite_false, true_and, and_true, List.mem_cons, List.not_mem_nil, or_false, false_or, or_self, List.length_cons, List.length_nil, InR_t, InL_t, z_ix_t, mI_s1, mI_s2, ↓brT, ↓brF, ↓brT', ↓brF', mL_sI, mR_sI, mK_sI, mS_sI, mI_sL, mL_s1, mL_s2, mR_sL, mK_sL, mS_sL, mI_sR, mL_sR, mR_s1, mR_s2, mK_sR, mS_sR, mA_s1, mA_s2, mL_sA, mR_sA, mK_sA, mS_sA, ix_n, ix_a, ix_m, ix_s, z_sw, z_stop, forall_const, true_implies, false_implies, imp_self, implies_true, not_true_eq_false, not_false_eq_true, ne_eq, eq_self, Option.some.injEq, reduceCtorEq, Nat.reduceAdd, Nat.reduceSub, Nat.reduceMul, Nat.reduceEqDiff, Nat.reduceLT, Nat.reduceLeDiff, Int.reduceAdd, Int.reduceMul, Int.reduceSub, Int.reduceNeg, Int.reduceToNat, Int.reduceLT, Int.reduceLE, Int.reduceEq, ↓reduceIte, List.reverse_cons, Option.toList, List.cons_append, List.nil_append, vI_inj, vL_inj, vO_inj, rI, rL, rO, rV, mI_sQ, mL_sQ, mK_sQ, mS_sQ, mQ_s1, mQ_s2, iL_and, iL_or, iL_xor, iL_shl, iL_ushr, iR_and, iR_or, iR_xor, iR_shl, iR_shr, iR_ushr, iR_cmp, yc0, tlX2_narrowByRule, tkX2_narrowByRule, o_aload, o_getR, o_i2l, o_iald, o_iand, o_ic, o_iceq, o_ifne, o_iload, o_imul, o_istore, o_ixor, o_land, o_lc, o_lload, o_lret, o_lshl, o_lstore, o_lxor, hz, hy2]
        try simp +contextual (disch := omega) only [impF, impT, and_true, true_and, implies_true, not_false_eq_true, not_true_eq_false]
        rw [← hQ]
        refine ⟨rfl, y2, rfl, bX_c s2 (fun p v hp hv => ?_)⟩
        unfold narR nr2
        rw [htt, hcc, ← hYe p v, show (allN (fun v => !nr1 A r X t v || !hB A r v) 5) = true by rw [← hal]; exact allN_congr fun i hi => by rw [hYe]]
        simp [hc]
      · have hal : allN (fun v => !Y t v || !hB A r v) 5 = false := by
          cases q : allN (fun v => !Y t v || !hB A r v) 5
          · rfl
          · exact absurd (a2.mpr q) hz
        refine z_run1 tsX2_narrowByRule [] 60 ?_
        simp (maxSteps := 1000000) -implicitDefEqProofs +contextual (disch := omega) only [z_wp_t, z_wp_u, ↓pI_e, ↓pL_e, ↓pO_e, ↓pR_e, ↓p1_I, ↓p1_O, z_gl, z_st1, z_st2, z_nl_I, z_nl_O, z_nl_J, z_nl_L, if_true, if_false, ite_true, ite_false, true_and, and_true, List.mem_cons, List.not_mem_nil, or_false, false_or, or_self, List.length_cons, List.length_nil, InR_t, InL_t, z_ix_t, mI_s1, mI_s2, ↓brT, ↓brF, ↓brT', ↓brF', mL_sI, mR_sI, mK_sI, mS_sI, mI_sL, mL_s1, mL_s2, mR_sL, mK_sL, mS_sL, mI_sR, mL_sR, mR_s1, mR_s2, mK_sR, mS_sR, mA_s1, mA_s2, mL_sA, mR_sA, mK_sA, mS_sA, ix_n, ix_a, ix_m, ix_s, z_sw, z_stop, forall_const, true_implies, false_implies, imp_self, implies_true, not_true_eq_false, not_false_eq_true, ne_eq, eq_self, Option.some.injEq, reduceCtorEq, Nat.reduceAdd, Nat.reduceSub, Nat.reduceMul, Nat.reduceEqDiff, Nat.reduceLT, Nat.reduceLeDiff, Int.reduceAdd, Int.reduceMul, Int.reduceSub, Int.reduceNeg, Int.reduceToNat, Int.reduceLT, Int.reduceLE, Int.reduceEq, ↓reduceIte, List.reverse_cons, Option.toList, List.cons_append, List.nil_append, vI_inj, vL_inj, vO_inj, rI, rL, rO, rV, mI_sQ, mL_sQ, mK_sQ, mS_sQ, mQ_s1, mQ_s2, iL_and, iL_or, iL_xor, iL_shl, iL_ushr, iR_and, iR_or, iR_xor, iR_shl, iR_shr, iR_ushr, iR_cmp, yc0, tlX2_narrowByRule, tkX2_narrowByRule, o_aload, o_getR, o_i2l, o_iald, o_iand, o_ic, o_iceq, o_ifne, o_iload, o_imul, o_istore, o_ixor, o_land, o_lc, o_lload, o_lret, o_lshl, o_lstore, o_lxor, hz]
        try simp +contextual (disch := omega) only [impF, impT, and_true, true_and, implies_true, not_false_eq_true, not_true_eq_false]
        rw [← hQ]
        refine ⟨rfl, y, rfl, bX_c hY (fun p v hp hv => ?_)⟩
        unfold narR nr2
        rw [htt, hcc, ← hYe p v, show (allN (fun v => !nr1 A r X t v || !hB A r v) 5) = false by rw [← hal]; exact allN_congr fun i hi => by rw [hYe]]
        simp
    by_cases hz : z_and (vsO x c) (z_xor cv (-1)) = 0
    · have hal := a1.mp hz
      have hnx := rest y1 _ s1 (fun p v => by
        unfold nr1
        rw [htt, hcc, hal]
        simp)
      refine z_run1 tsX2_narrowByRule [78] 60 ?_
      simp (maxSteps := 1000000) -implicitDefEqProofs +contextual (disch := omega) only [z_wp_t, z_wp_u, ↓pI_e, ↓pL_e, ↓pO_e, ↓pR_e, ↓p1_I, ↓p1_O, z_gl, z_st1, z_st2, z_nl_I, z_nl_O, z_nl_J, z_nl_L, if_true, if_false, ite_true, ite_false, true_and, and_true, List.mem_cons, List.not_mem_nil, or_false, false_or, or_self, List.length_cons, List.length_nil, InR_t, InL_t, z_ix_t, mI_s1, mI_s2, ↓brT, ↓brF, ↓brT', ↓brF', mL_sI, mR_sI, mK_sI, mS_sI, mI_sL, mL_s1, mL_s2, mR_sL, mK_sL, mS_sL, mI_sR, mL_sR, mR_s1, mR_s2, mK_sR, mS_sR, mA_s1, mA_s2, mL_sA, mR_sA, mK_sA, mS_sA, ix_n, ix_a, ix_m, ix_s, z_sw, z_stop, forall_const, true_implies, false_implies, imp_self, implies_true, not_true_eq_false, not_false_eq_true, ne_eq, eq_self, Option.some.injEq, reduceCtorEq, Nat.reduceAdd, Nat.reduceSub, Nat.reduceMul, Nat.reduceEqDiff, Nat.reduceLT, Nat.reduceLeDiff, Int.reduceAdd, Int.reduceMul, Int.reduceSub, Int.reduceNeg, Int.reduceToNat, Int.reduceLT, Int.reduceLE, Int.reduceEq, ↓reduceIte, List.reverse_cons, Option.toList, List.cons_append, List.nil_append, vI_inj, vL_inj, vO_inj, rI, rL, rO, rV, mI_sQ, mL_sQ, mK_sQ, mS_sQ, mQ_s1, mQ_s2, iL_and, iL_or, iL_xor, iL_shl, iL_ushr, iR_and, iR_or, iR_xor, iR_shl, iR_shr, iR_ushr, iR_cmp, yc0, tlX2_narrowByRule, tkX2_narrowByRule, o_aload, o_getR, o_i2l, o_iald, o_iand, o_ic, o_iceq, o_ifne, o_iload, o_imul, o_istore, o_ixor, o_land, o_lc, o_lload, o_lret, o_lshl, o_lstore, o_lxor, hz, hy1]
      try simp +contextual (disch := omega) only [impF, impT, and_true, true_and, implies_true, not_false_eq_true, not_true_eq_false]
      exact hnx
    · have hal : allN (fun v => !X c v || cB A r v) 5 = false := by
        cases q : allN (fun v => !X c v || cB A r v) 5
        · rfl
        · exact absurd (a1.mpr q) hz
      have hnx := rest x X hx (fun p v => by
        unfold nr1
        rw [htt, hcc, hal]
        simp [hc])
      refine z_run1 tsX2_narrowByRule [78] 60 ?_
      simp (maxSteps := 1000000) -implicitDefEqProofs +contextual (disch := omega) only [z_wp_t, z_wp_u, ↓pI_e, ↓pL_e, ↓pO_e, ↓pR_e, ↓p1_I, ↓p1_O, z_gl, z_st1, z_st2, z_nl_I, z_nl_O, z_nl_J, z_nl_L, if_true, if_false, ite_true, ite_false, true_and, and_true, List.mem_cons, List.not_mem_nil, or_false, false_or, or_self, List.length_cons, List.length_nil, InR_t, InL_t, z_ix_t, mI_s1, mI_s2, ↓brT, ↓brF, ↓brT', ↓brF', mL_sI, mR_sI, mK_sI, mS_sI, mI_sL, mL_s1, mL_s2, mR_sL, mK_sL, mS_sL, mI_sR, mL_sR, mR_s1, mR_s2, mK_sR, mS_sR, mA_s1, mA_s2, mL_sA, mR_sA, mK_sA, mS_sA, ix_n, ix_a, ix_m, ix_s, z_sw, z_stop, forall_const, true_implies, false_implies, imp_self, implies_true, not_true_eq_false, not_false_eq_true, ne_eq, eq_self, Option.some.injEq, reduceCtorEq, Nat.reduceAdd, Nat.reduceSub, Nat.reduceMul, Nat.reduceEqDiff, Nat.reduceLT, Nat.reduceLeDiff, Int.reduceAdd, Int.reduceMul, Int.reduceSub, Int.reduceNeg, Int.reduceToNat, Int.reduceLT, Int.reduceLE, Int.reduceEq, ↓reduceIte, List.reverse_cons, Option.toList, List.cons_append, List.nil_append, vI_inj, vL_inj, vO_inj, rI, rL, rO, rV, mI_sQ, mL_sQ, mK_sQ, mS_sQ, mQ_s1, mQ_s2, iL_and, iL_or, iL_xor, iL_shl, iL_ushr, iR_and, iR_or, iR_xor, iR_shl, iR_shr, iR_ushr, iR_cmp, yc0, tlX2_narrowByRule, tkX2_narrowByRule, o_aload, o_getR, o_i2l, o_iald, o_iand, o_ic, o_iceq, o_ifne, o_iload, o_imul, o_istore, o_ixor, o_land, o_lc, o_lload, o_lret, o_lshl, o_lstore, o_lxor, hz]
      try simp +contextual (disch := omega) only [impF, impT, and_true, true_and, implies_true, not_false_eq_true, not_true_eq_false]
      exact hnx
theorem cnt_lt {f g : Nat → Bool} : ∀ {n : Nat}, (∀ i, i < n → f i = true → g i = true) → (∃ i, i < n ∧ g i = true ∧ f i = false) → cnt f n < cnt g n
  | 0, _, h => by obtain ⟨i, h1, -⟩ := h; omega
  | n + 1, h, ⟨i, h1, h2, h3⟩ => by
    have hle := cnt_le2 (n := n) (fun i hi => h i (by omega))
    have hn := h n (by omega)
    simp only [cnt]
    by_cases e : i = n
    · subst e
      rw [h2, h3]
      simp
      omega
    · have := cnt_lt (n := n) (fun i hi => h i (by omega)) ⟨i, by omega, h2, h3⟩
      cases hf : f n
      · simp; omega
      · simp [hn hf]; omega
theorem bX_lt {x y : Int} {X Y : Nat → Nat → Bool} (hx : bX x X) (hy : bX y Y) (hs : ∀ p v, p < 8 → v < 5 → Y p v = true → X p v = true) (hne : y ≠ x) : cnt (lb y) 40 < cnt (lb x) 40 := by
  have hsub : ∀ i, i < 40 → lb y i = true → lb x i = true := fun i hi q => by
    rw [show i = 5 * (i / 5) + i % 5 by omega, hx.2.1 _ _ (by omega) (by omega)]
    rw [show i = 5 * (i / 5) + i % 5 by omega, hy.2.1 _ _ (by omega) (by omega)] at q
    exact hs _ _ (by omega) (by omega) q
  by_cases h : ∃ i, i < 40 ∧ lb x i = true ∧ lb y i = false
  · exact cnt_lt hsub h
  · exfalso
    apply hne
    refine lb_ext hy.1 hx.1 fun i hi => ?_
    by_cases h40 : i < 40
    · cases q1 : lb y i
      · cases q2 : lb x i
        · rfl
        · exact absurd ⟨i, h40, q2, q1⟩ h
      · exact (hsub i h40 q1).symm
    · rw [hx.2.2 i (by omega), hy.2.2 i (by omega)]
set_option maxHeartbeats 4000000 in
theorem sp_narrowedSpots (l : Launch) (G : zG) (h : zH) (z : Nat) (m : Int) (A : zA) (hsh : ShP h z) (hD : PzD h z A) (hA : AOK A) (hm : 0 ≤ m ∧ m < 1048576) (hmb : ∀ r, tb m r = true → r < aC A) (lv : Nat) (hlv : 3 ≤ lv) : z_Sp l G mtX2_narrowedSpots lv 0 0 [vR z, vI m] (h) (fun q h' => h' = h ∧ ∃ y X, q = some (vL y) ∧ bX y X ∧ NarOK A (tb m) X) := by
  have k0 := hsh.1
  have h20 := hA.2.2.2.2.1
  obtain ⟨P, hP⟩ : ∃ P, gL h z 5 = P := ⟨_, rfl⟩
  have hpub := hD.2.1
  rw [hP] at hpub
  refine x_enter [vR z, vI m, vJ, vJ, vJ, vJ, vJ, vJ, vJ] (by decide +kernel) (by omega) rfl (Nat.le_of_ble_eq_true rfl) ?_
  generalize hQ : (fun (q : Option zV) (h' : zH) => h' = h ∧ ∃ y X, q = some (vL y) ∧ bX y X ∧ NarOK A (tb m) X) = QQ
  have outer : ∀ (d i : Nat) (tk : Int) (x : Int), i + d = 41 → bX x (narI A (tb m) i) → (tk = 0 ∧ eqX (narP A (tb m) (narI A (tb m) i) 20) (narI A (tb m) i) ∨ tk = 1 ∧ cnt (lb x) 40 + i ≤ 40) → z_X l G mtX2_narrowedSpots lv 0 0 (QQ) 0 0 (h) 11 [vR z, vI m, vL x, vJ, vI tk, vI i, vJ, vJ, vJ] [] := by
    intro d
    induction d with
    | zero =>
      intro i tk x hi hx htk
      have htk : tk = 0 ∧ eqX (narP A (tb m) (narI A (tb m) i) 20) (narI A (tb m) i) := by
        rcases htk with q | q
        · exact q
        · omega
      refine z_run1 tsX2_narrowedSpots [] 20 ?_
      simp (maxSteps := 1000000) -implicitDefEqProofs +contextual (disch := omega) only [z_wp_t, z_wp_u, ↓pI_e, ↓pL_e, ↓pO_e, ↓pR_e, ↓p1_I, ↓p1_O, z_gl, z_st1, z_st2, z_nl_I, z_nl_O, z_nl_J, z_nl_L, if_true, if_false, ite_true, ite_false, true_and, and_true, List.mem_cons, List.not_mem_nil, or_false, false_or, or_self, List.length_cons, List.length_nil, InR_t, InL_t, z_ix_t, mI_s1, mI_s2, ↓brT, ↓brF, ↓brT', ↓brF', mL_sI, mR_sI, mK_sI, mS_sI, mI_sL, mL_s1, mL_s2, mR_sL, mK_sL, mS_sL, mI_sR, mL_sR, mR_s1, mR_s2, mK_sR, mS_sR, mA_s1, mA_s2, mL_sA, mR_sA, mK_sA, mS_sA, ix_n, ix_a, ix_m, ix_s, z_sw, z_stop, forall_const, true_implies, false_implies, imp_self, implies_true, not_true_eq_false, not_false_eq_true, ne_eq, eq_self, Option.some.injEq, reduceCtorEq, Nat.reduceAdd, Nat.reduceSub, Nat.reduceMul, Nat.reduceEqDiff, Nat.reduceLT, Nat.reduceLeDiff, Int.reduceAdd, Int.reduceMul, Int.reduceSub, Int.reduceNeg, Int.reduceToNat, Int.reduceLT, Int.reduceLE, Int.reduceEq, ↓reduceIte, List.reverse_cons, Option.toList, List.cons_append, List.nil_append, vI_inj, vL_inj, vO_inj, rI, rL, rO, rV, mI_sQ, mL_sQ, mK_sQ, mS_sQ, mQ_s1, mQ_s2, iL_and, iL_or, iL_xor, iL_shl, iL_ushr, iR_and, iR_or, iR_xor, iR_shl, iR_shr, iR_ushr, iR_cmp, yc0, tlX2_narrowedSpots, tkX2_narrowedSpots, o_aload, o_getL, o_goto, o_iand, o_ic, o_icge, o_icgt, o_icne, o_ifeq, o_iinc, o_iload, o_ishr, o_istore, o_lcmp, o_lload, o_lret, o_lstore]
      try simp +contextual (disch := omega) only [impF, impT, and_true, true_and, implies_true, not_false_eq_true, not_true_eq_false]
      rw [← hQ]
      exact ⟨rfl, x, _, rfl, hx, ⟨i, fun p v _ _ => rfl⟩, htk.2⟩
    | succ d ih =>
      intro i tk x hi hx htk
      rcases htk with ⟨rfl, hfx⟩ | ⟨rfl, hct⟩
      · refine z_run1 tsX2_narrowedSpots [] 20 ?_
        simp (maxSteps := 1000000) -implicitDefEqProofs +contextual (disch := omega) only [z_wp_t, z_wp_u, ↓pI_e, ↓pL_e, ↓pO_e, ↓pR_e, ↓p1_I, ↓p1_O, z_gl, z_st1, z_st2, z_nl_I, z_nl_O, z_nl_J, z_nl_L, if_true, if_false, ite_true, ite_false, true_and, and_true, List.mem_cons, List.not_mem_nil, or_false, false_or, or_self, List.length_cons, List.length_nil, InR_t, InL_t, z_ix_t, mI_s1, mI_s2, ↓brT, ↓brF, ↓brT', ↓brF', mL_sI, mR_sI, mK_sI, mS_sI, mI_sL, mL_s1, mL_s2, mR_sL, mK_sL, mS_sL, mI_sR, mL_sR, mR_s1, mR_s2, mK_sR, mS_sR, mA_s1, mA_s2, mL_sA, mR_sA, mK_sA, mS_sA, ix_n, ix_a, ix_m, ix_s, z_sw, z_stop, forall_const, true_implies, false_implies, imp_self, implies_true, not_true_eq_false, not_false_eq_true, ne_eq, eq_self, Option.some.injEq, reduceCtorEq, Nat.reduceAdd, Nat.reduceSub, Nat.reduceMul, Nat.reduceEqDiff, Nat.reduceLT, Nat.reduceLeDiff, Int.reduceAdd, Int.reduceMul, Int.reduceSub, Int.reduceNeg, Int.reduceToNat, Int.reduceLT, Int.reduceLE, Int.reduceEq, ↓reduceIte, List.reverse_cons, Option.toList, List.cons_append, List.nil_append, vI_inj, vL_inj, vO_inj, rI, rL, rO, rV, mI_sQ, mL_sQ, mK_sQ, mS_sQ, mQ_s1, mQ_s2, iL_and, iL_or, iL_xor, iL_shl, iL_ushr, iR_and, iR_or, iR_xor, iR_shl, iR_shr, iR_ushr, iR_cmp, yc0, tlX2_narrowedSpots, tkX2_narrowedSpots, o_aload, o_getL, o_goto, o_iand, o_ic, o_icge, o_icgt, o_icne, o_ifeq, o_iinc, o_iload, o_ishr, o_istore, o_lcmp, o_lload, o_lret, o_lstore]
        try simp +contextual (disch := omega) only [impF, impT, and_true, true_and, implies_true, not_false_eq_true, not_true_eq_false]
        rw [← hQ]
        exact ⟨rfl, x, _, rfl, hx, ⟨i, fun p v _ _ => rfl⟩, hfx⟩
      · have inner : ∀ (e n : Nat) (y : Int), n + e = 20 → bX y (narP A (tb m) (narI A (tb m) i) n) → z_X l G mtX2_narrowedSpots lv 0 0 (QQ) 0 0 (h) 29 [vR z, vI m, vL y, vJ, vI 1, vI i, vL x, vJ, vI n] [] := by
          intro e
          induction e with
          | zero =>
            intro n y hn hy
            obtain rfl : n = 20 := by omega
            have hxL := hx.1
            have hyL := hy.1
            by_cases he : y = x
            · subst he
              have hnx := ih (i + 1) 0 y (by omega) hy (Or.inl ⟨rfl, narP_c hA hmb (fun p v hp hv => (hy.2.1 p v hp hv).symm.trans (hx.2.1 p v hp hv)) 20⟩)
              refine z_run1 tsX2_narrowedSpots [11] 20 ?_
              simp (maxSteps := 1000000) -implicitDefEqProofs +contextual (disch := omega) only [z_wp_t, z_wp_u, ↓pI_e, ↓pL_e, ↓pO_e, ↓pR_e, ↓p1_I, ↓p1_O, z_gl, z_st1, z_st2, z_nl_I, z_nl_O, z_nl_J, z_nl_L, if_true, if_false, ite_true, ite_false, true_and, and_true, List.mem_cons, List.not_mem_nil, or_false, false_or, or_self, List.length_cons, List.length_nil, InR_t, InL_t, z_ix_t, mI_s1, mI_s2, ↓brT, ↓brF, ↓brT', ↓brF', mL_sI, mR_sI, mK_sI, mS_sI, mI_sL, mL_s1, mL_s2, mR_sL, mK_sL, mS_sL, mI_sR, mL_sR, mR_s1, mR_s2, mK_sR, mS_sR, mA_s1, mA_s2, mL_sA, mR_sA, mK_sA, mS_sA, ix_n, ix_a, ix_m, ix_s, z_sw, z_stop, forall_const, true_implies, false_implies, imp_self, implies_true, not_true_eq_false, not_false_eq_true, ne_eq, eq_self, Option.some.injEq, reduceCtorEq, Nat.reduceAdd, Nat.reduceSub, Nat.reduceMul, Nat.reduceEqDiff, Nat.reduceLT, Nat.reduceLeDiff, Int.reduceAdd, Int.reduceMul, Int.reduceSub, Int.reduceNeg, Int.reduceToNat, Int.reduceLT, Int.reduceLE, Int.reduceEq, ↓reduceIte, List.reverse_cons, Option.toList, List.cons_append, List.nil_append, vI_inj, vL_inj, vO_inj, rI, rL, rO, rV, mI_sQ, mL_sQ, mK_sQ, mS_sQ, mQ_s1, mQ_s2, iL_and, iL_or, iL_xor, iL_shl, iL_ushr, iR_and, iR_or, iR_xor, iR_shl, iR_shr, iR_ushr, iR_cmp, yc0, tlX2_narrowedSpots, tkX2_narrowedSpots, o_aload, o_getL, o_goto, o_iand, o_ic, o_icge, o_icgt, o_icne, o_ifeq, o_iinc, o_iload, o_ishr, o_istore, o_lcmp, o_lload, o_lret, o_lstore, hyL]
              try simp +contextual (disch := omega) only [impF, impT, and_true, true_and, implies_true, not_false_eq_true, not_true_eq_false]
              refine x_wk [vR z, vI m, vL y, vJ, vI 0, vI ((i + 1 : Nat) : Int), vJ, vJ, vJ] (by simp [z_wk]) ?_
              exact hnx
            · have hlt := bX_lt hx hy (fun p v _ _ q => narP_sub 20 q) he
              have hnx := ih (i + 1) 1 y (by omega) hy (Or.inr ⟨rfl, by omega⟩)
              refine z_run1 tsX2_narrowedSpots [11] 20 ?_
              simp (maxSteps := 1000000) -implicitDefEqProofs +contextual (disch := omega) only [z_wp_t, z_wp_u, ↓pI_e, ↓pL_e, ↓pO_e, ↓pR_e, ↓p1_I, ↓p1_O, z_gl, z_st1, z_st2, z_nl_I, z_nl_O, z_nl_J, z_nl_L, if_true, if_false, ite_true, ite_false, true_and, and_true, List.mem_cons, List.not_mem_nil, or_false, false_or, or_self, List.length_cons, List.length_nil, InR_t, InL_t, z_ix_t, mI_s1, mI_s2, ↓brT, ↓brF, ↓brT', ↓brF', mL_sI, mR_sI, mK_sI, mS_sI, mI_sL, mL_s1, mL_s2, mR_sL, mK_sL, mS_sL, mI_sR, mL_sR, mR_s1, mR_s2, mK_sR, mS_sR, mA_s1, mA_s2, mL_sA, mR_sA, mK_sA, mS_sA, ix_n, ix_a, ix_m, ix_s, z_sw, z_stop, forall_const, true_implies, false_implies, imp_self, implies_true, not_true_eq_false, not_false_eq_true, ne_eq, eq_self, Option.some.injEq, reduceCtorEq, Nat.reduceAdd, Nat.reduceSub, Nat.reduceMul, Nat.reduceEqDiff, Nat.reduceLT, Nat.reduceLeDiff, Int.reduceAdd, Int.reduceMul, Int.reduceSub, Int.reduceNeg, Int.reduceToNat, Int.reduceLT, Int.reduceLE, Int.reduceEq, ↓reduceIte, List.reverse_cons, Option.toList, List.cons_append, List.nil_append, vI_inj, vL_inj, vO_inj, rI, rL, rO, rV, mI_sQ, mL_sQ, mK_sQ, mS_sQ, mQ_s1, mQ_s2, iL_and, iL_or, iL_xor, iL_shl, iL_ushr, iR_and, iR_or, iR_xor, iR_shl, iR_shr, iR_ushr, iR_cmp, yc0, tlX2_narrowedSpots, tkX2_narrowedSpots, o_aload, o_getL, o_goto, o_iand, o_ic, o_icge, o_icgt, o_icne, o_ifeq, o_iinc, o_iload, o_ishr, o_istore, o_lcmp, o_lload, o_lret, o_lstore, hyL, hxL, he]
              try simp +contextual (disch := omega) only [impF, impT, and_true, true_and, implies_true, not_false_eq_true, not_true_eq_false]
              refine x_wk [vR z, vI m, vL y, vJ, vI 1, vI ((i + 1 : Nat) : Int), vJ, vJ, vJ] (by simp [z_wk]) ?_
              exact hnx
          | succ e ihe =>
            intro n y hn hy
            have hb := z_bit m (k := n) (by omega)
            cases hs : tb m n
            · rw [hs] at hb
              simp only [Bool.false_eq_true, if_false] at hb
              have hnx := ihe (n + 1) y (by omega) (by simp only [narP, hs]; exact hy)
              refine z_run1 tsX2_narrowedSpots [29] 30 ?_
              simp (maxSteps := 1000000) -implicitDefEqProofs +contextual (disch := omega) only [z_wp_t, z_wp_u, ↓pI_e, ↓pL_e, ↓pO_e, ↓pR_e, ↓p1_I, ↓p1_O, z_gl, z_st1, z_st2, z_nl_I, z_nl_O, z_nl_J, z_nl_L, if_true, if_false, ite_true, ite_false, true_and, and_true, List.mem_cons, List.not_mem_nil, or_false, false_or, or_self, List.length_cons, List.length_nil, InR_t, InL_t, z_ix_t, mI_s1, mI_s2, ↓brT, ↓brF, ↓brT', ↓brF', mL_sI, mR_sI, mK_sI, mS_sI, mI_sL, mL_s1, mL_s2, mR_sL, mK_sL, mS_sL, mI_sR, mL_sR, mR_s1, mR_s2, mK_sR, mS_sR, mA_s1, mA_s2, mL_sA, mR_sA, mK_sA, mS_sA, ix_n, ix_a, ix_m, ix_s, z_sw, z_stop, forall_const, true_implies, false_implies, imp_self, implies_true, not_true_eq_false, not_false_eq_true, ne_eq, eq_self, Option.some.injEq, reduceCtorEq, Nat.reduceAdd, Nat.reduceSub, Nat.reduceMul, Nat.reduceEqDiff, Nat.reduceLT, Nat.reduceLeDiff, Int.reduceAdd, Int.reduceMul, Int.reduceSub, Int.reduceNeg, Int.reduceToNat, Int.reduceLT, Int.reduceLE, Int.reduceEq, ↓reduceIte, List.reverse_cons, Option.toList, List.cons_append, List.nil_append, vI_inj, vL_inj, vO_inj, rI, rL, rO, rV, mI_sQ, mL_sQ, mK_sQ, mS_sQ, mQ_s1, mQ_s2, iL_and, iL_or, iL_xor, iL_shl, iL_ushr, iR_and, iR_or, iR_xor, iR_shl, iR_shr, iR_ushr, iR_cmp, yc0, tlX2_narrowedSpots, tkX2_narrowedSpots, o_aload, o_getL, o_goto, o_iand, o_ic, o_icge, o_icgt, o_icne, o_ifeq, o_iinc, o_iload, o_ishr, o_istore, o_lcmp, o_lload, o_lret, o_lstore, hb]
              try simp +contextual (disch := omega) only [impF, impT, and_true, true_and, implies_true, not_false_eq_true, not_true_eq_false]
              exact hnx
            · rw [hs] at hb
              simp only [if_true] at hb
              have hic := hmb n hs
              refine z_run1 tsX2_narrowedSpots [] 30 ?_
              simp (maxSteps := 1000000) -implicitDefEqProofs +contextual (disch := omega) only [z_wp_t, z_wp_u, ↓pI_e, ↓pL_e, ↓pO_e, ↓pR_e, ↓p1_I, ↓p1_O, z_gl, z_st1, z_st2, z_nl_I, z_nl_O, z_nl_J, z_nl_L, if_true, if_false, ite_true, ite_false, true_and, and_true, List.mem_cons, List.not_mem_nil, or_false, false_or, or_self, List.length_cons, List.length_nil, InR_t, InL_t, z_ix_t, mI_s1, mI_s2, ↓brT, ↓brF, ↓brT', ↓brF', mL_sI, mR_sI, mK_sI, mS_sI, mI_sL, mL_s1, mL_s2, mR_sL, mK_sL, mS_sL, mI_sR, mL_sR, mR_s1, mR_s2, mK_sR, mS_sR, mA_s1, mA_s2, mL_sA, mR_sA, mK_sA, mS_sA, ix_n, ix_a, ix_m, ix_s, z_sw, z_stop, forall_const, true_implies, false_implies, imp_self, implies_true, not_true_eq_false, not_false_eq_true, ne_eq, eq_self, Option.some.injEq, reduceCtorEq, Nat.reduceAdd, Nat.reduceSub, Nat.reduceMul, Nat.reduceEqDiff, Nat.reduceLT, Nat.reduceLeDiff, Int.reduceAdd, Int.reduceMul, Int.reduceSub, Int.reduceNeg, Int.reduceToNat, Int.reduceLT, Int.reduceLE, Int.reduceEq, ↓reduceIte, List.reverse_cons, Option.toList, List.cons_append, List.nil_append, vI_inj, vL_inj, vO_inj, rI, rL, rO, rV, mI_sQ, mL_sQ, mK_sQ, mS_sQ, mQ_s1, mQ_s2, iL_and, iL_or, iL_xor, iL_shl, iL_ushr, iR_and, iR_or, iR_xor, iR_shl, iR_shr, iR_ushr, iR_cmp, yc0, tlX2_narrowedSpots, tkX2_narrowedSpots, o_aload, o_getL, o_goto, o_iand, o_ic, o_icge, o_icgt, o_icne, o_ifeq, o_iinc, o_iload, o_ishr, o_istore, o_lcmp, o_lload, o_lret, o_lstore, hb]
              try simp +contextual (disch := omega) only [impF, impT, and_true, true_and, implies_true, not_false_eq_true, not_true_eq_false]
              refine x_callV (by decide +kernel) cv_X2_148 (sp_narrowByRule l G h z n y _ A hsh (hD.1 n hic) (hA.2.2.2.2.2.2 n hic) (by omega) hy 2 (by omega)) k0 (by omega) rfl (by omega) (by omega) rfl (Nat.le_of_ble_eq_true rfl) ?_
              rintro r h' ⟨hE, y2, rfl, hy2⟩
              subst h'
              have hnx := ihe (n + 1) y2 (by omega) (by simp only [narP, hs]; exact hy2)
              refine z_run1 tsX2_narrowedSpots [29] 30 ?_
              simp (maxSteps := 1000000) -implicitDefEqProofs +contextual (disch := omega) only [z_wp_t, z_wp_u, ↓pI_e, ↓pL_e, ↓pO_e, ↓pR_e, ↓p1_I, ↓p1_O, z_gl, z_st1, z_st2, z_nl_I, z_nl_O, z_nl_J, z_nl_L, if_true, if_false, ite_true, ite_false, true_and, and_true, List.mem_cons, List.not_mem_nil, or_false, false_or, or_self, List.length_cons, List.length_nil, InR_t, InL_t, z_ix_t, mI_s1, mI_s2, ↓brT, ↓brF, ↓brT', ↓brF', mL_sI, mR_sI, mK_sI, mS_sI, mI_sL, mL_s1, mL_s2, mR_sL, mK_sL, mS_sL, mI_sR, mL_sR, mR_s1, mR_s2, mK_sR, mS_sR, mA_s1, mA_s2, mL_sA, mR_sA, mK_sA, mS_sA, ix_n, ix_a, ix_m, ix_s, z_sw, z_stop, forall_const, true_implies, false_implies, imp_self, implies_true, not_true_eq_false, not_false_eq_true, ne_eq, eq_self, Option.some.injEq, reduceCtorEq, Nat.reduceAdd, Nat.reduceSub, Nat.reduceMul, Nat.reduceEqDiff, Nat.reduceLT, Nat.reduceLeDiff, Int.reduceAdd, Int.reduceMul, Int.reduceSub, Int.reduceNeg, Int.reduceToNat, Int.reduceLT, Int.reduceLE, Int.reduceEq, ↓reduceIte, List.reverse_cons, Option.toList, List.cons_append, List.nil_append, vI_inj, vL_inj, vO_inj, rI, rL, rO, rV, mI_sQ, mL_sQ, mK_sQ, mS_sQ, mQ_s1, mQ_s2, iL_and, iL_or, iL_xor, iL_shl, iL_ushr, iR_and, iR_or, iR_xor, iR_shl, iR_shr, iR_ushr, iR_cmp, yc0, tlX2_narrowedSpots, tkX2_narrowedSpots, o_aload, o_getL, o_goto, o_iand, o_ic, o_icge, o_icgt, o_icne, o_ifeq, o_iinc, o_iload, o_ishr, o_istore, o_lcmp, o_lload, o_lret, o_lstore]
              try simp +contextual (disch := omega) only [impF, impT, and_true, true_and, implies_true, not_false_eq_true, not_true_eq_false]
              exact hnx
        have hnx := inner 20 0 x (by omega) hx
        refine z_run1 tsX2_narrowedSpots [29] 20 ?_
        simp (maxSteps := 1000000) -implicitDefEqProofs +contextual (disch := omega) only [z_wp_t, z_wp_u, ↓pI_e, ↓pL_e, ↓pO_e, ↓pR_e, ↓p1_I, ↓p1_O, z_gl, z_st1, z_st2, z_nl_I, z_nl_O, z_nl_J, z_nl_L, if_true, if_false, ite_true, ite_false, true_and, and_true, List.mem_cons, List.not_mem_nil, or_false, false_or, or_self, List.length_cons, List.length_nil, InR_t, InL_t, z_ix_t, mI_s1, mI_s2, ↓brT, ↓brF, ↓brT', ↓brF', mL_sI, mR_sI, mK_sI, mS_sI, mI_sL, mL_s1, mL_s2, mR_sL, mK_sL, mS_sL, mI_sR, mL_sR, mR_s1, mR_s2, mK_sR, mS_sR, mA_s1, mA_s2, mL_sA, mR_sA, mK_sA, mS_sA, ix_n, ix_a, ix_m, ix_s, z_sw, z_stop, forall_const, true_implies, false_implies, imp_self, implies_true, not_true_eq_false, not_false_eq_true, ne_eq, eq_self, Option.some.injEq, reduceCtorEq, Nat.reduceAdd, Nat.reduceSub, Nat.reduceMul, Nat.reduceEqDiff, Nat.reduceLT, Nat.reduceLeDiff, Int.reduceAdd, Int.reduceMul, Int.reduceSub, Int.reduceNeg, Int.reduceToNat, Int.reduceLT, Int.reduceLE, Int.reduceEq, ↓reduceIte, List.reverse_cons, Option.toList, List.cons_append, List.nil_append, vI_inj, vL_inj, vO_inj, rI, rL, rO, rV, mI_sQ, mL_sQ, mK_sQ, mS_sQ, mQ_s1, mQ_s2, iL_and, iL_or, iL_xor, iL_shl, iL_ushr, iR_and, iR_or, iR_xor, iR_shl, iR_shr, iR_ushr, iR_cmp, yc0, tlX2_narrowedSpots, tkX2_narrowedSpots, o_aload, o_getL, o_goto, o_iand, o_ic, o_icge, o_icgt, o_icne, o_ifeq, o_iinc, o_iload, o_ishr, o_istore, o_lcmp, o_lload, o_lret, o_lstore]
        try simp +contextual (disch := omega) only [impF, impT, and_true, true_and, implies_true, not_false_eq_true, not_true_eq_false]
        exact hnx
  have h0 := outer 41 0 1 P (by omega) ⟨hpub.1, hpub.2.1, hpub.2.2⟩ (Or.inr ⟨rfl, by have := cnt_le (lb P) 40; omega⟩)
  refine z_run1 tsX2_narrowedSpots [11] 20 ?_
  simp (maxSteps := 1000000) -implicitDefEqProofs +contextual (disch := omega) only [z_wp_t, z_wp_u, ↓pI_e, ↓pL_e, ↓pO_e, ↓pR_e, ↓p1_I, ↓p1_O, z_gl, z_st1, z_st2, z_nl_I, z_nl_O, z_nl_J, z_nl_L, if_true, if_false, ite_true, ite_false, true_and, and_true, List.mem_cons, List.not_mem_nil, or_false, false_or, or_self, List.length_cons, List.length_nil, InR_t, InL_t, z_ix_t, mI_s1, mI_s2, ↓brT, ↓brF, ↓brT', ↓brF', mL_sI, mR_sI, mK_sI, mS_sI, mI_sL, mL_s1, mL_s2, mR_sL, mK_sL, mS_sL, mI_sR, mL_sR, mR_s1, mR_s2, mK_sR, mS_sR, mA_s1, mA_s2, mL_sA, mR_sA, mK_sA, mS_sA, ix_n, ix_a, ix_m, ix_s, z_sw, z_stop, forall_const, true_implies, false_implies, imp_self, implies_true, not_true_eq_false, not_false_eq_true, ne_eq, eq_self, Option.some.injEq, reduceCtorEq, Nat.reduceAdd, Nat.reduceSub, Nat.reduceMul, Nat.reduceEqDiff, Nat.reduceLT, Nat.reduceLeDiff, Int.reduceAdd, Int.reduceMul, Int.reduceSub, Int.reduceNeg, Int.reduceToNat, Int.reduceLT, Int.reduceLE, Int.reduceEq, ↓reduceIte, List.reverse_cons, Option.toList, List.cons_append, List.nil_append, vI_inj, vL_inj, vO_inj, rI, rL, rO, rV, mI_sQ, mL_sQ, mK_sQ, mS_sQ, mQ_s1, mQ_s2, iL_and, iL_or, iL_xor, iL_shl, iL_ushr, iR_and, iR_or, iR_xor, iR_shl, iR_shr, iR_ushr, iR_cmp, yc0, tlX2_narrowedSpots, tkX2_narrowedSpots, o_aload, o_getL, o_goto, o_iand, o_ic, o_icge, o_icgt, o_icne, o_ifeq, o_iinc, o_iload, o_ishr, o_istore, o_lcmp, o_lload, o_lret, o_lstore, k0, hP]
  try simp +contextual (disch := omega) only [impF, impT, and_true, true_and, implies_true, not_false_eq_true, not_true_eq_false]
  exact h0
