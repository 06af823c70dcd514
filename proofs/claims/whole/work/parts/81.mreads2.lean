/-! the reference: reads -/
theorem rd_155 (l : Launch) (G : zG) (h : zH) (QQ : Option zV → zH → Prop) (t : Nat → Int) (n j : Nat) (f b : Int) (hR : RS h t n j f) (lv : Nat) (hlv : 6 ≤ lv) (K : ∀ h', RK h h' → gI h' 97 = gI h 97 → gI h' 93 8 = (if f = -1 then (if j < n then (j : Int) else -1) else f) → QQ none h') : z_X l G mtX8_reads lv 0 0 (QQ) 0 0 (h) 155 [vR 93, vI b] [] := by
  have c0 := hR.1.1
  have e7 := hR.2.2.1
  have e4 := hR.2.1.1
  have e8 := hR.2.2.2.2.1
  have hj := hR.2.2.2.1
  have hn := hR.n40
  have hfa := sm_fails l G h t n j f hR 1 (by omega)
  by_cases q : j < n
  · have hK := K (sI h 93 8 (if f = -1 then (j : Int) else f)) (RK.i (Or.inr rfl)) (sI_ne (by omega)) (by rw [mI_s1, if_pos q])
    clear K
    generalize (if f = -1 then (j : Int) else f) = ff at *
    refine z_run1 tsX8_reads [] 20 ?_
    simp (maxSteps := 1000000) -implicitDefEqProofs +contextual (disch := omega) only [z_wp_t, z_wp_u, ↓pI_e, ↓pL_e, ↓pO_e, ↓pR_e, ↓p1_I, ↓p1_O, z_gl, z_st1, z_st2, z_nl_I, z_nl_O, z_nl_J, z_nl_L, if_true, if_false, ite_true, ite_false, true_and, and_true, List.mem_cons, List.not_mem_nil, or_false, false_or, or_self, List.length_cons, List.length_nil, InR_t, InL_t, z_ix_t, mI_s1, mI_s2, ↓brT, ↓brF, ↓brT', ↓brF', mL_sI, mR_sI, mK_sI, mS_sI, mI_sL, mL_s1, mL_s2, mR_sL, mK_sL, mS_sL, mI_sR, mL_sR, mR_s1, mR_s2, mK_sR, mS_sR, mA_s1, mA_s2, mL_sA, mR_sA, mK_sA, mS_sA, ix_n, ix_a, ix_m, ix_s, z_sw, z_stop, forall_const, true_implies, false_implies, imp_self, implies_true, not_true_eq_false, not_false_eq_true, ne_eq, eq_self, Option.some.injEq, reduceCtorEq, Nat.reduceAdd, Nat.reduceSub, Nat.reduceMul, Nat.reduceEqDiff, Nat.reduceLT, Nat.reduceLeDiff, Int.reduceAdd, Int.reduceMul, Int.reduceSub, Int.reduceNeg, Int.reduceToNat, Int.reduceLT, Int.reduceLE, Int.reduceEq, ↓reduceIte, List.reverse_cons, Option.toList, List.cons_append, List.nil_append, vI_inj, vL_inj, vO_inj, rI, rL, rO, rV, mI_sQ, mL_sQ, mK_sQ, mS_sQ, mQ_s1, mQ_s2, iL_and, iL_or, iL_xor, iL_shl, iL_ushr, iR_and, iR_or, iR_xor, iR_shl, iR_shr, iR_ushr, iR_cmp, yc0, tlX8_reads, tkX8_reads, o_aload, o_getI, o_getR, o_goto, o_iald, o_iast, o_ic, o_iceq, o_icge, o_icne, o_ifeq, o_iload, o_putI, o_vret, c0, e7, e4]
    try simp +contextual (disch := omega) only [impF, impT, and_true, true_and, implies_true, not_false_eq_true, not_true_eq_false]
    refine x_callV (by decide +kernel) cv_X8_105 (hfa) c0 (by omega) rfl (by omega) (by omega) rfl (Nat.le_of_ble_eq_true rfl) ?_
    rintro r h' ⟨rfl, hE⟩
    subst h'
    refine z_run1 tsX8_reads [] 20 ?_
    simp (maxSteps := 1000000) -implicitDefEqProofs +contextual (disch := omega) only [z_wp_t, z_wp_u, ↓pI_e, ↓pL_e, ↓pO_e, ↓pR_e, ↓p1_I, ↓p1_O, z_gl, z_st1, z_st2, z_nl_I, z_nl_O, z_nl_J, z_nl_L, if_true, if_false, ite_true, ite_false, true_and, and_true, List.mem_cons, List.not_mem_nil, or_false, false_or, or_self, List.length_cons, List.length_nil, InR_t, InL_t, z_ix_t, mI_s1, mI_s2, ↓brT, ↓brF, ↓brT', ↓brF', mL_sI, mR_sI, mK_sI, mS_sI, mI_sL, mL_s1, mL_s2, mR_sL, mK_sL, mS_sL, mI_sR, mL_sR, mR_s1, mR_s2, mK_sR, mS_sR, mA_s1, mA_s2, mL_sA, mR_sA, mK_sA, mS_sA, ix_n, ix_a, ix_m, ix_s, z_sw, z_stop, forall_const, true_implies, false_implies, imp_self, implies_true, not_true_eq_false, not_false_eq_true, ne_eq, eq_self, Option.some.injEq, reduceCtorEq, Nat.reduceAdd, Nat.reduceSub, Nat.reduceMul, Nat.reduceEqDiff, Nat.reduceLT, Nat.reduceLeDiff, Int.reduceAdd, Int.reduceMul, Int.reduceSub, Int.reduceNeg, Int.reduceToNat, Int.reduceLT, Int.reduceLE, Int.reduceEq, ↓reduceIte, List.reverse_cons, Option.toList, List.cons_append, List.nil_append, vI_inj, vL_inj, vO_inj, rI, rL, rO, rV, mI_sQ, mL_sQ, mK_sQ, mS_sQ, mQ_s1, mQ_s2, iL_and, iL_or, iL_xor, iL_shl, iL_ushr, iR_and, iR_or, iR_xor, iR_shl, iR_shr, iR_ushr, iR_cmp, yc0, tlX8_reads, tkX8_reads, o_aload, o_getI, o_getR, o_goto, o_iald, o_iast, o_ic, o_iceq, o_icge, o_icne, o_ifeq, o_iload, o_putI, o_vret]
    try simp +contextual (disch := omega) only [impF, impT, and_true, true_and, implies_true, not_false_eq_true, not_true_eq_false]
    exact hK
  · have hK := K h RK.rf rfl (by rw [if_neg q, e8]; split <;> omega)
    clear K
    refine z_run1 tsX8_reads [] 20 ?_
    simp (maxSteps := 1000000) -implicitDefEqProofs +contextual (disch := omega) only [z_wp_t, z_wp_u, ↓pI_e, ↓pL_e, ↓pO_e, ↓pR_e, ↓p1_I, ↓p1_O, z_gl, z_st1, z_st2, z_nl_I, z_nl_O, z_nl_J, z_nl_L, if_true, if_false, ite_true, ite_false, true_and, and_true, List.mem_cons, List.not_mem_nil, or_false, false_or, or_self, List.length_cons, List.length_nil, InR_t, InL_t, z_ix_t, mI_s1, mI_s2, ↓brT, ↓brF, ↓brT', ↓brF', mL_sI, mR_sI, mK_sI, mS_sI, mI_sL, mL_s1, mL_s2, mR_sL, mK_sL, mS_sL, mI_sR, mL_sR, mR_s1, mR_s2, mK_sR, mS_sR, mA_s1, mA_s2, mL_sA, mR_sA, mK_sA, mS_sA, ix_n, ix_a, ix_m, ix_s, z_sw, z_stop, forall_const, true_implies, false_implies, imp_self, implies_true, not_true_eq_false, not_false_eq_true, ne_eq, eq_self, Option.some.injEq, reduceCtorEq, Nat.reduceAdd, Nat.reduceSub, Nat.reduceMul, Nat.reduceEqDiff, Nat.reduceLT, Nat.reduceLeDiff, Int.reduceAdd, Int.reduceMul, Int.reduceSub, Int.reduceNeg, Int.reduceToNat, Int.reduceLT, Int.reduceLE, Int.reduceEq, ↓reduceIte, List.reverse_cons, Option.toList, List.cons_append, List.nil_append, vI_inj, vL_inj, vO_inj, rI, rL, rO, rV, mI_sQ, mL_sQ, mK_sQ, mS_sQ, mQ_s1, mQ_s2, iL_and, iL_or, iL_xor, iL_shl, iL_ushr, iR_and, iR_or, iR_xor, iR_shl, iR_shr, iR_ushr, iR_cmp, yc0, tlX8_reads, tkX8_reads, o_aload, o_getI, o_getR, o_goto, o_iald, o_iast, o_ic, o_iceq, o_icge, o_icne, o_ifeq, o_iload, o_putI, o_vret, c0, e7, e4]
    try simp +contextual (disch := omega) only [impF, impT, and_true, true_and, implies_true, not_false_eq_true, not_true_eq_false]
    exact hK
/-- a fault is there: it stays -/
theorem rd_119F (l : Launch) (G : zG) (h : zH) (QQ : Option zV → zH → Prop) (t : Nat → Int) (n j : Nat) (f b : Int) (hR : RS h t n j f) (hf : f ≠ -1) (lv : Nat) (hlv : 6 ≤ lv) (K : ∀ h', RK h h' → gI h' 93 8 = f → QQ none h') : z_X l G mtX8_reads lv 0 0 (QQ) 0 0 (h) 119 [vR 93, vI b] [] := by
  have c0 := hR.1.1
  have e8 := hR.2.2.2.2.1
  have c97 := hR.1.2.1.2.2.2.1
  have s5 := hR.1.2.2.2.1.2.2.2.1
  have hfr := hR.2.2.2.2.2
  have hnx := rd_155 l G _ QQ t n j f b (hR.s 2 (-1)) lv hlv (fun h' k1 _ k3 => K h' (RK.s.tr k1) (by rw [k3, if_neg hf]))
  clear K
  refine z_run1 tsX8_reads [155] 30 ?_
  simp (maxSteps := 1000000) -implicitDefEqProofs +contextual (disch := omega) only [z_wp_t, z_wp_u, ↓pI_e, ↓pL_e, ↓pO_e, ↓pR_e, ↓p1_I, ↓p1_O, z_gl, z_st1, z_st2, z_nl_I, z_nl_O, z_nl_J, z_nl_L, if_true, if_false, ite_true, ite_false, true_and, and_true, List.mem_cons, List.not_mem_nil, or_false, false_or, or_self, List.length_cons, List.length_nil, InR_t, InL_t, z_ix_t, mI_s1, mI_s2, ↓brT, ↓brF, ↓brT', ↓brF', mL_sI, mR_sI, mK_sI, mS_sI, mI_sL, mL_s1, mL_s2, mR_sL, mK_sL, mS_sL, mI_sR, mL_sR, mR_s1, mR_s2, mK_sR, mS_sR, mA_s1, mA_s2, mL_sA, mR_sA, mK_sA, mS_sA, ix_n, ix_a, ix_m, ix_s, z_sw, z_stop, forall_const, true_implies, false_implies, imp_self, implies_true, not_true_eq_false, not_false_eq_true, ne_eq, eq_self, Option.some.injEq, reduceCtorEq, Nat.reduceAdd, Nat.reduceSub, Nat.reduceMul, Nat.reduceEqDiff, Nat.reduceLT, Nat.reduceLeDiff, Int.reduceAdd, Int.reduceMul, Int.reduceSub, Int.reduceNeg, Int.reduceToNat, Int.reduceLT, Int.reduceLE, Int.reduceEq, ↓reduceIte, List.reverse_cons, Option.toList, List.cons_append, List.nil_append, vI_inj, vL_inj, vO_inj, rI, rL, rO, rV, mI_sQ, mL_sQ, mK_sQ, mS_sQ, mQ_s1, mQ_s2, iL_and, iL_or, iL_xor, iL_shl, iL_ushr, iR_and, iR_or, iR_xor, iR_shl, iR_shr, iR_ushr, iR_cmp, yc0, tlX8_reads, tkX8_reads, o_aload, o_getI, o_getR, o_goto, o_iald, o_iast, o_ic, o_iceq, o_icge, o_icne, o_ifeq, o_iload, o_putI, o_vret, c0, e8, c97, s5]
  try simp +contextual (disch := omega) only [impF, impT, and_true, true_and, implies_true, not_false_eq_true, not_true_eq_false]
  exact hnx
theorem rd_83F (l : Launch) (G : zG) (h : zH) (QQ : Option zV → zH → Prop) (t : Nat → Int) (n j : Nat) (f b : Int) (hR : RS h t n j f) (hf : f ≠ -1) (lv : Nat) (hlv : 6 ≤ lv) (K : ∀ h', RK h h' → gI h' 93 8 = f → QQ none h') : z_X l G mtX8_reads lv 0 0 (QQ) 0 0 (h) 83 [vR 93, vI b] [] := by
  have c0 := hR.1.1
  have c97 := hR.1.2.1.2.2.2.1
  have s5 := hR.1.2.2.2.1.2.2.2.1
  have hcr := hR.ck j
  have hnx := sm_next l G h t n j f hR 1 (by omega)
  by_cases q : ck t n j = 33
  · have hR1 := hR.s 3 1
    have hts := sm_takesSign l G _ t n j f 33 hR1 (by omega) 3 (by omega)
    have hR2 := hR1.fl f hR.2.2.2.2.2
    have hnx2 := rd_119F l G _ QQ t n j f b hR2 hf lv hlv (fun h' k1 k2 => K h' ((RK.s.tr (RK.i (Or.inr rfl))).tr k1) k2)
    clear K
    rw [q] at hnx
    refine z_run1 tsX8_reads [] 30 ?_
    simp (maxSteps := 1000000) -implicitDefEqProofs +contextual (disch := omega) only [z_wp_t, z_wp_u, ↓pI_e, ↓pL_e, ↓pO_e, ↓pR_e, ↓p1_I, ↓p1_O, z_gl, z_st1, z_st2, z_nl_I, z_nl_O, z_nl_J, z_nl_L, if_true, if_false, ite_true, ite_false, true_and, and_true, List.mem_cons, List.not_mem_nil, or_false, false_or, or_self, List.length_cons, List.length_nil, InR_t, InL_t, z_ix_t, mI_s1, mI_s2, ↓brT, ↓brF, ↓brT', ↓brF', mL_sI, mR_sI, mK_sI, mS_sI, mI_sL, mL_s1, mL_s2, mR_sL, mK_sL, mS_sL, mI_sR, mL_sR, mR_s1, mR_s2, mK_sR, mS_sR, mA_s1, mA_s2, mL_sA, mR_sA, mK_sA, mS_sA, ix_n, ix_a, ix_m, ix_s, z_sw, z_stop, forall_const, true_implies, false_implies, imp_self, implies_true, not_true_eq_false, not_false_eq_true, ne_eq, eq_self, Option.some.injEq, reduceCtorEq, Nat.reduceAdd, Nat.reduceSub, Nat.reduceMul, Nat.reduceEqDiff, Nat.reduceLT, Nat.reduceLeDiff, Int.reduceAdd, Int.reduceMul, Int.reduceSub, Int.reduceNeg, Int.reduceToNat, Int.reduceLT, Int.reduceLE, Int.reduceEq, ↓reduceIte, List.reverse_cons, Option.toList, List.cons_append, List.nil_append, vI_inj, vL_inj, vO_inj, rI, rL, rO, rV, mI_sQ, mL_sQ, mK_sQ, mS_sQ, mQ_s1, mQ_s2, iL_and, iL_or, iL_xor, iL_shl, iL_ushr, iR_and, iR_or, iR_xor, iR_shl, iR_shr, iR_ushr, iR_cmp, yc0, tlX8_reads, tkX8_reads, o_aload, o_getI, o_getR, o_goto, o_iald, o_iast, o_ic, o_iceq, o_icge, o_icne, o_ifeq, o_iload, o_putI, o_vret, c0, s5]
    try simp +contextual (disch := omega) only [impF, impT, and_true, true_and, implies_true, not_false_eq_true, not_true_eq_false]
    refine x_callV (by decide +kernel) cv_X8_91 (hnx) c0 (by omega) rfl (by omega) (by omega) rfl (Nat.le_of_ble_eq_true rfl) ?_
    rintro r h' ⟨rfl, hE⟩
    subst h'
    refine z_run1 tsX8_reads [] 30 ?_
    simp (maxSteps := 1000000) -implicitDefEqProofs +contextual (disch := omega) only [z_wp_t, z_wp_u, ↓pI_e, ↓pL_e, ↓pO_e, ↓pR_e, ↓p1_I, ↓p1_O, z_gl, z_st1, z_st2, z_nl_I, z_nl_O, z_nl_J, z_nl_L, if_true, if_false, ite_true, ite_false, true_and, and_true, List.mem_cons, List.not_mem_nil, or_false, false_or, or_self, List.length_cons, List.length_nil, InR_t, InL_t, z_ix_t, mI_s1, mI_s2, ↓brT, ↓brF, ↓brT', ↓brF', mL_sI, mR_sI, mK_sI, mS_sI, mI_sL, mL_s1, mL_s2, mR_sL, mK_sL, mS_sL, mI_sR, mL_sR, mR_s1, mR_s2, mK_sR, mS_sR, mA_s1, mA_s2, mL_sA, mR_sA, mK_sA, mS_sA, ix_n, ix_a, ix_m, ix_s, z_sw, z_stop, forall_const, true_implies, false_implies, imp_self, implies_true, not_true_eq_false, not_false_eq_true, ne_eq, eq_self, Option.some.injEq, reduceCtorEq, Nat.reduceAdd, Nat.reduceSub, Nat.reduceMul, Nat.reduceEqDiff, Nat.reduceLT, Nat.reduceLeDiff, Int.reduceAdd, Int.reduceMul, Int.reduceSub, Int.reduceNeg, Int.reduceToNat, Int.reduceLT, Int.reduceLE, Int.reduceEq, ↓reduceIte, List.reverse_cons, Option.toList, List.cons_append, List.nil_append, vI_inj, vL_inj, vO_inj, rI, rL, rO, rV, mI_sQ, mL_sQ, mK_sQ, mS_sQ, mQ_s1, mQ_s2, iL_and, iL_or, iL_xor, iL_shl, iL_ushr, iR_and, iR_or, iR_xor, iR_shl, iR_shr, iR_ushr, iR_cmp, yc0, tlX8_reads, tkX8_reads, o_aload, o_getI, o_getR, o_goto, o_iald, o_iast, o_ic, o_iceq, o_icge, o_icne, o_ifeq, o_iload, o_putI, o_vret, c0, c97, s5]
    try simp +contextual (disch := omega) only [impF, impT, and_true, true_and, implies_true, not_false_eq_true, not_true_eq_false]
    refine x_callV (by decide +kernel) cv_X8_131 (hts) c0 (by omega) rfl (by omega) (by omega) rfl (Nat.le_of_ble_eq_true rfl) ?_
    rintro r h' ⟨rfl, ⟨w, -⟩ | ⟨-, hE⟩⟩
    · exact absurd w hf
    · rw [if_neg hf] at hE
      subst h'
      exact hnx2
  · have hR1 := hR.s 3 0
    have hnx2 := rd_119F l G _ QQ t n j f b hR1 hf lv hlv (fun h' k1 k2 => K h' (RK.s.tr k1) k2)
    clear K
    generalize ck t n j = c at *
    refine z_run1 tsX8_reads [] 30 ?_
    simp (maxSteps := 1000000) -implicitDefEqProofs +contextual (disch := omega) only [z_wp_t, z_wp_u, ↓pI_e, ↓pL_e, ↓pO_e, ↓pR_e, ↓p1_I, ↓p1_O, z_gl, z_st1, z_st2, z_nl_I, z_nl_O, z_nl_J, z_nl_L, if_true, if_false, ite_true, ite_false, true_and, and_true, List.mem_cons, List.not_mem_nil, or_false, false_or, or_self, List.length_cons, List.length_nil, InR_t, InL_t, z_ix_t, mI_s1, mI_s2, ↓brT, ↓brF, ↓brT', ↓brF', mL_sI, mR_sI, mK_sI, mS_sI, mI_sL, mL_s1, mL_s2, mR_sL, mK_sL, mS_sL, mI_sR, mL_sR, mR_s1, mR_s2, mK_sR, mS_sR, mA_s1, mA_s2, mL_sA, mR_sA, mK_sA, mS_sA, ix_n, ix_a, ix_m, ix_s, z_sw, z_stop, forall_const, true_implies, false_implies, imp_self, implies_true, not_true_eq_false, not_false_eq_true, ne_eq, eq_self, Option.some.injEq, reduceCtorEq, Nat.reduceAdd, Nat.reduceSub, Nat.reduceMul, Nat.reduceEqDiff, Nat.reduceLT, Nat.reduceLeDiff, Int.reduceAdd, Int.reduceMul, Int.reduceSub, Int.reduceNeg, Int.reduceToNat, Int.reduceLT, Int.reduceLE, Int.reduceEq, ↓reduceIte, List.reverse_cons, Option.toList, List.cons_append, List.nil_append, vI_inj, vL_inj, vO_inj, rI, rL, rO, rV, mI_sQ, mL_sQ, mK_sQ, mS_sQ, mQ_s1, mQ_s2, iL_and, iL_or, iL_xor, iL_shl, iL_ushr, iR_and, iR_or, iR_xor, iR_shl, iR_shr, iR_ushr, iR_cmp, yc0, tlX8_reads, tkX8_reads, o_aload, o_getI, o_getR, o_goto, o_iald, o_iast, o_ic, o_iceq, o_icge, o_icne, o_ifeq, o_iload, o_putI, o_vret, c0, s5]
    try simp +contextual (disch := omega) only [impF, impT, and_true, true_and, implies_true, not_false_eq_true, not_true_eq_false]
    refine x_callV (by decide +kernel) cv_X8_91 (hnx) c0 (by omega) rfl (by omega) (by omega) rfl (Nat.le_of_ble_eq_true rfl) ?_
    rintro r h' ⟨rfl, hE⟩
    subst h'
    refine z_run1 tsX8_reads [119] 30 ?_
    simp (maxSteps := 1000000) -implicitDefEqProofs +contextual (disch := omega) only [z_wp_t, z_wp_u, ↓pI_e, ↓pL_e, ↓pO_e, ↓pR_e, ↓p1_I, ↓p1_O, z_gl, z_st1, z_st2, z_nl_I, z_nl_O, z_nl_J, z_nl_L, if_true, if_false, ite_true, ite_false, true_and, and_true, List.mem_cons, List.not_mem_nil, or_false, false_or, or_self, List.length_cons, List.length_nil, InR_t, InL_t, z_ix_t, mI_s1, mI_s2, ↓brT, ↓brF, ↓brT', ↓brF', mL_sI, mR_sI, mK_sI, mS_sI, mI_sL, mL_s1, mL_s2, mR_sL, mK_sL, mS_sL, mI_sR, mL_sR, mR_s1, mR_s2, mK_sR, mS_sR, mA_s1, mA_s2, mL_sA, mR_sA, mK_sA, mS_sA, ix_n, ix_a, ix_m, ix_s, z_sw, z_stop, forall_const, true_implies, false_implies, imp_self, implies_true, not_true_eq_false, not_false_eq_true, ne_eq, eq_self, Option.some.injEq, reduceCtorEq, Nat.reduceAdd, Nat.reduceSub, Nat.reduceMul, Nat.reduceEqDiff, Nat.reduceLT, Nat.reduceLeDiff, Int.reduceAdd, Int.reduceMul, Int.reduceSub, Int.reduceNeg, Int.reduceToNat, Int.reduceLT, Int.reduceLE, Int.reduceEq, ↓reduceIte, List.reverse_cons, Option.toList, List.cons_append, List.nil_append, vI_inj, vL_inj, vO_inj, rI, rL, rO, rV, mI_sQ, mL_sQ, mK_sQ, mS_sQ, mQ_s1, mQ_s2, iL_and, iL_or, iL_xor, iL_shl, iL_ushr, iR_and, iR_or, iR_xor, iR_shl, iR_shr, iR_ushr, iR_cmp, yc0, tlX8_reads, tkX8_reads, o_aload, o_getI, o_getR, o_goto, o_iald, o_iast, o_ic, o_iceq, o_icge, o_icne, o_ifeq, o_iload, o_putI, o_vret, c0, c97, s5]
    try simp +contextual (disch := omega) only [impF, impT, and_true, true_and, implies_true, not_false_eq_true, not_true_eq_false]
    exact hnx2
theorem rd_77F (l : Launch) (G : zG) (h : zH) (QQ : Option zV → zH → Prop) (t : Nat → Int) (n j : Nat) (f b : Int) (hR : RS h t n j f) (hf : f ≠ -1) (lv : Nat) (hlv : 6 ≤ lv) (K : ∀ h', RK h h' → gI h' 93 8 = f → QQ none h') : z_X l G mtX8_reads lv 0 0 (QQ) 0 0 (h) 77 [vR 93, vI b] [] := by
  have c0 := hR.1.1
  have hts := sm_takesSign l G h t n j f 58 hR (by omega) 3 (by omega)
  have hR2 := hR.fl f hR.2.2.2.2.2
  have hnx2 := rd_83F l G _ QQ t n j f b hR2 hf lv hlv (fun h' k1 k2 => K h' (RK.tr (RK.i (Or.inr rfl)) k1) k2)
  clear K
  refine z_run1 tsX8_reads [] 30 ?_
  simp (maxSteps := 1000000) -implicitDefEqProofs +contextual (disch := omega) only [z_wp_t, z_wp_u, ↓pI_e, ↓pL_e, ↓pO_e, ↓pR_e, ↓p1_I, ↓p1_O, z_gl, z_st1, z_st2, z_nl_I, z_nl_O, z_nl_J, z_nl_L, if_true, if_false, ite_true, ite_false, true_and, and_true, List.mem_cons, List.not_mem_nil, or_false, false_or, or_self, List.length_cons, List.length_nil, InR_t, InL_t, z_ix_t, mI_s1, mI_s2, ↓brT, ↓brF, ↓brT', ↓brF', mL_sI, mR_sI, mK_sI, mS_sI, mI_sL, mL_s1, mL_s2, mR_sL, mK_sL, mS_sL, mI_sR, mL_sR, mR_s1, mR_s2, mK_sR, mS_sR, mA_s1, mA_s2, mL_sA, mR_sA, mK_sA, mS_sA, ix_n, ix_a, ix_m, ix_s, z_sw, z_stop, forall_const, true_implies, false_implies, imp_self, implies_true, not_true_eq_false, not_false_eq_true, ne_eq, eq_self, Option.some.injEq, reduceCtorEq, Nat.reduceAdd, Nat.reduceSub, Nat.reduceMul, Nat.reduceEqDiff, Nat.reduceLT, Nat.reduceLeDiff, Int.reduceAdd, Int.reduceMul, Int.reduceSub, Int.reduceNeg, Int.reduceToNat, Int.reduceLT, Int.reduceLE, Int.reduceEq, ↓reduceIte, List.reverse_cons, Option.toList, List.cons_append, List.nil_append, vI_inj, vL_inj, vO_inj, rI, rL, rO, rV, mI_sQ, mL_sQ, mK_sQ, mS_sQ, mQ_s1, mQ_s2, iL_and, iL_or, iL_xor, iL_shl, iL_ushr, iR_and, iR_or, iR_xor, iR_shl, iR_shr, iR_ushr, iR_cmp, yc0, tlX8_reads, tkX8_reads, o_aload, o_getI, o_getR, o_goto, o_iald, o_iast, o_ic, o_iceq, o_icge, o_icne, o_ifeq, o_iload, o_putI, o_vret]
  try simp +contextual (disch := omega) only [impF, impT, and_true, true_and, implies_true, not_false_eq_true, not_true_eq_false]
  refine x_callV (by decide +kernel) cv_X8_131 (hts) c0 (by omega) rfl (by omega) (by omega) rfl (Nat.le_of_ble_eq_true rfl) ?_
  rintro r h' ⟨rfl, ⟨w, -⟩ | ⟨-, hE⟩⟩
  · exact absurd w hf
  · rw [if_neg hf] at hE
    subst h'
    exact hnx2
def bts (h : zH) (to : Nat) (L : List (Int × Int)) : Prop := ∀ v : Nat, v < 1000 → tb (gI h 97 (to + v / 32)) (v % 32) = inL L (v : Int)
def rdP (h : zH) (x : Nat ⊕ (Int × Int × List (Int × Int))) (h' : zH) : Prop := match x with
  | .inl j => gI h' 93 8 = (j : Int)
  | .inr x => gI h' 93 8 = -1 ∧ gI h' 97 2 = x.2.1 ∧ bts h' 36 x.2.2 ∧ ∀ k, k ≠ 2 → k < 36 → gI h' 97 k = gI h 97 k
theorem rd_119 (l : Launch) (G : zG) (h : zH) (QQ : Option zV → zH → Prop) (t : Nat → Int) (n i : Nat) (b fb : Int) (hR : RS h t n i (-1)) (lv : Nat) (hlv : 6 ≤ lv) (K : ∀ h', RK h h' → rdP h (rdD t n i fb) h' → QQ none h') : z_X l G mtX8_reads lv 0 0 (QQ) 0 0 (h) 119 [vR 93, vI b] [] := by
  have c0 := hR.1.1
  have e8 := hR.2.2.2.2.1
  have c97 := hR.1.2.1.2.2.2.1
  have s5 := hR.1.2.2.2.1.2.2.2.1
  have hi := hR.2.2.2.1
  have hn := hR.n40
  have hcr := hR.ck i
  have hpk := sm_pack l G h t n i hR 3 (by omega)
  by_cases q : 97 ≤ ck t n i ∧ ck t n i ≤ 104
  · have hi1 : i + 1 ≤ n := ck_lt (t := t) (n := n) (i := i) (by omega)
    have hskn := (sk_le t hi1).2
    have hR1 := (hR.at _ hskn).s 2 (ck t n i - 97)
    have hK1 : RK h (sI (sI h 93 7 (sk t n (i + 1) : Int)) 97 2 (ck t n i - 97)) := RK.tr (RK.i (Or.inl rfl)) RK.s
    have e2 : gI (sI (sI h 93 7 (sk t n (i + 1) : Int)) 97 2 (ck t n i - 97)) 97 2 = ck t n i - 97 := mI_s1 _ _ _ _
    have eo : ∀ k, k ≠ 2 → gI (sI (sI h 93 7 (sk t n (i + 1) : Int)) 97 2 (ck t n i - 97)) 97 k = gI h 97 k := fun k hk => by rw [mI_s2 _ _ (Or.inr hk), mI_s2 _ _ (Or.inl (by omega))]
    have step : z_X l G mtX8_reads lv 0 0 (QQ) 0 0 (sI (sI h 93 7 (sk t n (i + 1) : Int)) 97 2 (ck t n i - 97)) 141 [vR 93, vI b] [] := by
      generalize sI (sI h 93 7 (sk t n (i + 1) : Int)) 97 2 (ck t n i - 97) = h1 at *
      have c1 := hR1.1.1
      have e81 := hR1.2.2.2.2.1
      have hrg := sm_range l G h1 t n (sk t n (i + 1)) 36 (by omega) hR1 5 (by omega)
      rw [show ((36 : Nat) : Int) = 36 from rfl] at hrg
      have hD : rdD t n i fb = if (pRg t n 20 (sk t n (i + 1)) []).1 = true ∧ ¬ (pRg t n 20 (sk t n (i + 1)) []).2.1 < n then .inr (fb, ck t n i - 97, (pRg t n 20 (sk t n (i + 1)) []).2.2) else .inl (pRg t n 20 (sk t n (i + 1)) []).2.1 := by
        unfold rdD
        rw [if_pos q]
      rw [hD] at K
      have hnx : ∀ h2, rrQ h1 t n 36 (pRg t n 20 (sk t n (i + 1)) []) none h2 → z_X l G mtX8_reads lv 0 0 (QQ) 0 0 (h2) 155 [vR 93, vI b] [] := by
        intro h2 hq
        generalize pRg t n 20 (sk t n (i + 1)) [] = x at *
        obtain ⟨-, q1, q2, ⟨q3, q4, q5⟩ | ⟨j, q3, q4⟩⟩ := hq
        · refine rd_155 l G h2 QQ t n _ _ b q3 lv hlv (fun h' k1 k2 k3 => K h' ((hK1.tr q1).tr k1) ?_)
          rw [if_pos rfl] at k3
          by_cases w : x.2.1 < n
          · rw [if_pos w] at k3
            rw [if_neg (fun z => z.2 w)]
            exact k3
          · rw [if_neg w] at k3
            rw [if_pos ⟨q4, w⟩]
            refine ⟨k3, ?_, fun v hv => by rw [k2]; exact q5 v hv, fun k w1 w2 => ?_⟩
            · rw [k2, q2 2 (by omega)]
              exact e2
            · rw [k2, q2 k (by omega)]
              exact eo k w1
        · have hj := q3.2.2.2.2.2
          refine rd_155 l G h2 QQ t n _ _ b q3 lv hlv (fun h' k1 k2 k3 => K h' ((hK1.tr q1).tr k1) ?_)
          rw [if_neg (by omega)] at k3
          rw [if_neg]
          · exact k3
          · rintro ⟨z1, z2⟩
            exact z2 (ck_lt (by rw [q4 z1]; decide))
      clear K hD
      refine z_run1 tsX8_reads [] 20 ?_
      simp (maxSteps := 1000000) -implicitDefEqProofs +contextual (disch := omega) only [z_wp_t, z_wp_u, ↓pI_e, ↓pL_e, ↓pO_e, ↓pR_e, ↓p1_I, ↓p1_O, z_gl, z_st1, z_st2, z_nl_I, z_nl_O, z_nl_J, z_nl_L, if_true, if_false, ite_true, ite_false, true_and, and_true, List.mem_cons, List.not_mem_nil, or_false, false_or, or_self, List.length_cons, List.length_nil, InR_t, InL_t, z_ix_t, mI_s1, mI_s2, ↓brT, ↓brF, ↓brT', ↓brF', mL_sI, mR_sI, mK_sI, mS_sI, mI_sL, mL_s1, mL_s2, mR_sL, mK_sL, mS_sL, mI_sR, mL_sR, mR_s1, mR_s2, mK_sR, mS_sR, mA_s1, mA_s2, mL_sA, mR_sA, mK_sA, mS_sA, ix_n, ix_a, ix_m, ix_s, z_sw, z_stop, forall_const, true_implies, false_implies, imp_self, implies_true, not_true_eq_false, not_false_eq_true, ne_eq, eq_self, Option.some.injEq, reduceCtorEq, Nat.reduceAdd, Nat.reduceSub, Nat.reduceMul, Nat.reduceEqDiff, Nat.reduceLT, Nat.reduceLeDiff, Int.reduceAdd, Int.reduceMul, Int.reduceSub, Int.reduceNeg, Int.reduceToNat, Int.reduceLT, Int.reduceLE, Int.reduceEq, ↓reduceIte, List.reverse_cons, Option.toList, List.cons_append, List.nil_append, vI_inj, vL_inj, vO_inj, rI, rL, rO, rV, mI_sQ, mL_sQ, mK_sQ, mS_sQ, mQ_s1, mQ_s2, iL_and, iL_or, iL_xor, iL_shl, iL_ushr, iR_and, iR_or, iR_xor, iR_shl, iR_shr, iR_ushr, iR_cmp, yc0, tlX8_reads, tkX8_reads, o_aload, o_getI, o_getR, o_goto, o_iald, o_iast, o_ic, o_iceq, o_icge, o_icne, o_ifeq, o_iload, o_putI, o_vret, c1, e81]
      try simp +contextual (disch := omega) only [impF, impT, and_true, true_and, implies_true, not_false_eq_true, not_true_eq_false]
      refine x_callV (by decide +kernel) cv_X8_121 (hrg) c1 (by omega) rfl (by omega) (by omega) rfl (Nat.le_of_ble_eq_true rfl) ?_
      intro r h2 hq
      obtain rfl := hq.1
      exact hnx h2 hq
    clear K
    refine z_run1 tsX8_reads [] 20 ?_
    simp (maxSteps := 1000000) -implicitDefEqProofs +contextual (disch := omega) only [z_wp_t, z_wp_u, ↓pI_e, ↓pL_e, ↓pO_e, ↓pR_e, ↓p1_I, ↓p1_O, z_gl, z_st1, z_st2, z_nl_I, z_nl_O, z_nl_J, z_nl_L, if_true, if_false, ite_true, ite_false, true_and, and_true, List.mem_cons, List.not_mem_nil, or_false, false_or, or_self, List.length_cons, List.length_nil, InR_t, InL_t, z_ix_t, mI_s1, mI_s2, ↓brT, ↓brF, ↓brT', ↓brF', mL_sI, mR_sI, mK_sI, mS_sI, mI_sL, mL_s1, mL_s2, mR_sL, mK_sL, mS_sL, mI_sR, mL_sR, mR_s1, mR_s2, mK_sR, mS_sR, mA_s1, mA_s2, mL_sA, mR_sA, mK_sA, mS_sA, ix_n, ix_a, ix_m, ix_s, z_sw, z_stop, forall_const, true_implies, false_implies, imp_self, implies_true, not_true_eq_false, not_false_eq_true, ne_eq, eq_self, Option.some.injEq, reduceCtorEq, Nat.reduceAdd, Nat.reduceSub, Nat.reduceMul, Nat.reduceEqDiff, Nat.reduceLT, Nat.reduceLeDiff, Int.reduceAdd, Int.reduceMul, Int.reduceSub, Int.reduceNeg, Int.reduceToNat, Int.reduceLT, Int.reduceLE, Int.reduceEq, ↓reduceIte, List.reverse_cons, Option.toList, List.cons_append, List.nil_append, vI_inj, vL_inj, vO_inj, rI, rL, rO, rV, mI_sQ, mL_sQ, mK_sQ, mS_sQ, mQ_s1, mQ_s2, iL_and, iL_or, iL_xor, iL_shl, iL_ushr, iR_and, iR_or, iR_xor, iR_shl, iR_shr, iR_ushr, iR_cmp, yc0, tlX8_reads, tkX8_reads, o_aload, o_getI, o_getR, o_goto, o_iald, o_iast, o_ic, o_iceq, o_icge, o_icne, o_ifeq, o_iload, o_putI, o_vret, c0, e8, s5]
    try simp +contextual (disch := omega) only [impF, impT, and_true, true_and, implies_true, not_false_eq_true, not_true_eq_false]
    refine x_callV (by decide +kernel) cv_X8_128 (hpk) c0 (by omega) rfl (by omega) (by omega) rfl (Nat.le_of_ble_eq_true rfl) ?_
    rintro r h' (⟨-, rfl, hE⟩ | ⟨w, -⟩)
    · subst h'
      generalize ck t n i = c at *
      refine z_run1 tsX8_reads [141] 20 ?_
      simp (maxSteps := 1000000) -implicitDefEqProofs +contextual (disch := omega) only [z_wp_t, z_wp_u, ↓pI_e, ↓pL_e, ↓pO_e, ↓pR_e, ↓p1_I, ↓p1_O, z_gl, z_st1, z_st2, z_nl_I, z_nl_O, z_nl_J, z_nl_L, if_true, if_false, ite_true, ite_false, true_and, and_true, List.mem_cons, List.not_mem_nil, or_false, false_or, or_self, List.length_cons, List.length_nil, InR_t, InL_t, z_ix_t, mI_s1, mI_s2, ↓brT, ↓brF, ↓brT', ↓brF', mL_sI, mR_sI, mK_sI, mS_sI, mI_sL, mL_s1, mL_s2, mR_sL, mK_sL, mS_sL, mI_sR, mL_sR, mR_s1, mR_s2, mK_sR, mS_sR, mA_s1, mA_s2, mL_sA, mR_sA, mK_sA, mS_sA, ix_n, ix_a, ix_m, ix_s, z_sw, z_stop, forall_const, true_implies, false_implies, imp_self, implies_true, not_true_eq_false, not_false_eq_true, ne_eq, eq_self, Option.some.injEq, reduceCtorEq, Nat.reduceAdd, Nat.reduceSub, Nat.reduceMul, Nat.reduceEqDiff, Nat.reduceLT, Nat.reduceLeDiff, Int.reduceAdd, Int.reduceMul, Int.reduceSub, Int.reduceNeg, Int.reduceToNat, Int.reduceLT, Int.reduceLE, Int.reduceEq, ↓reduceIte, List.reverse_cons, Option.toList, List.cons_append, List.nil_append, vI_inj, vL_inj, vO_inj, rI, rL, rO, rV, mI_sQ, mL_sQ, mK_sQ, mS_sQ, mQ_s1, mQ_s2, iL_and, iL_or, iL_xor, iL_shl, iL_ushr, iR_and, iR_or, iR_xor, iR_shl, iR_shr, iR_ushr, iR_cmp, yc0, tlX8_reads, tkX8_reads, o_aload, o_getI, o_getR, o_goto, o_iald, o_iast, o_ic, o_iceq, o_icge, o_icne, o_ifeq, o_iload, o_putI, o_vret, c0, c97, s5]
      try simp +contextual (disch := omega) only [impF, impT, and_true, true_and, implies_true, not_false_eq_true, not_true_eq_false]
      exact step
    · exact absurd q w
  · have hD : rdD t n i fb = .inl i := by
      unfold rdD
      rw [if_neg q]
    rw [hD] at K
    have hR1 := (hR.fl (i : Int) (by omega)).s 2 (-1)
    have hnx := rd_155 l G _ QQ t n i (i : Int) b hR1 lv hlv (fun h' k1 k2 k3 => K h' ((RK.tr (RK.i (Or.inr rfl)) RK.s).tr k1) (by
      rw [if_neg (by omega)] at k3
      exact k3))
    have e81 := hR1.2.2.2.2.1
    clear K
    refine z_run1 tsX8_reads [] 20 ?_
    simp (maxSteps := 1000000) -implicitDefEqProofs +contextual (disch := omega) only [z_wp_t, z_wp_u, ↓pI_e, ↓pL_e, ↓pO_e, ↓pR_e, ↓p1_I, ↓p1_O, z_gl, z_st1, z_st2, z_nl_I, z_nl_O, z_nl_J, z_nl_L, if_true, if_false, ite_true, ite_false, true_and, and_true, List.mem_cons, List.not_mem_nil, or_false, false_or, or_self, List.length_cons, List.length_nil, InR_t, InL_t, z_ix_t, mI_s1, mI_s2, ↓brT, ↓brF, ↓brT', ↓brF', mL_sI, mR_sI, mK_sI, mS_sI, mI_sL, mL_s1, mL_s2, mR_sL, mK_sL, mS_sL, mI_sR, mL_sR, mR_s1, mR_s2, mK_sR, mS_sR, mA_s1, mA_s2, mL_sA, mR_sA, mK_sA, mS_sA, ix_n, ix_a, ix_m, ix_s, z_sw, z_stop, forall_const, true_implies, false_implies, imp_self, implies_true, not_true_eq_false, not_false_eq_true, ne_eq, eq_self, Option.some.injEq, reduceCtorEq, Nat.reduceAdd, Nat.reduceSub, Nat.reduceMul, Nat.reduceEqDiff, Nat.reduceLT, Nat.reduceLeDiff, Int.reduceAdd, Int.reduceMul, Int.reduceSub, Int.reduceNeg, Int.reduceToNat, Int.reduceLT, Int.reduceLE, Int.reduceEq, ↓reduceIte, List.reverse_cons, Option.toList, List.cons_append, List.nil_append, vI_inj, vL_inj, vO_inj, rI, rL, rO, rV, mI_sQ, mL_sQ, mK_sQ, mS_sQ, mQ_s1, mQ_s2, iL_and, iL_or, iL_xor, iL_shl, iL_ushr, iR_and, iR_or, iR_xor, iR_shl, iR_shr, iR_ushr, iR_cmp, yc0, tlX8_reads, tkX8_reads, o_aload, o_getI, o_getR, o_goto, o_iald, o_iast, o_ic, o_iceq, o_icge, o_icne, o_ifeq, o_iload, o_putI, o_vret, c0, e8, s5]
    try simp +contextual (disch := omega) only [impF, impT, and_true, true_and, implies_true, not_false_eq_true, not_true_eq_false]
    refine x_callV (by decide +kernel) cv_X8_128 (hpk) c0 (by omega) rfl (by omega) (by omega) rfl (Nat.le_of_ble_eq_true rfl) ?_
    rintro r h' (⟨w, -⟩ | ⟨-, rfl, hE⟩)
    · exact absurd w q
    · subst h'
      refine z_run1 tsX8_reads [155] 20 ?_
      simp (maxSteps := 1000000) -implicitDefEqProofs +contextual (disch := omega) only [z_wp_t, z_wp_u, ↓pI_e, ↓pL_e, ↓pO_e, ↓pR_e, ↓p1_I, ↓p1_O, z_gl, z_st1, z_st2, z_nl_I, z_nl_O, z_nl_J, z_nl_L, if_true, if_false, ite_true, ite_false, true_and, and_true, List.mem_cons, List.not_mem_nil, or_false, false_or, or_self, List.length_cons, List.length_nil, InR_t, InL_t, z_ix_t, mI_s1, mI_s2, ↓brT, ↓brF, ↓brT', ↓brF', mL_sI, mR_sI, mK_sI, mS_sI, mI_sL, mL_s1, mL_s2, mR_sL, mK_sL, mS_sL, mI_sR, mL_sR, mR_s1, mR_s2, mK_sR, mS_sR, mA_s1, mA_s2, mL_sA, mR_sA, mK_sA, mS_sA, ix_n, ix_a, ix_m, ix_s, z_sw, z_stop, forall_const, true_implies, false_implies, imp_self, implies_true, not_true_eq_false, not_false_eq_true, ne_eq, eq_self, Option.some.injEq, reduceCtorEq, Nat.reduceAdd, Nat.reduceSub, Nat.reduceMul, Nat.reduceEqDiff, Nat.reduceLT, Nat.reduceLeDiff, Int.reduceAdd, Int.reduceMul, Int.reduceSub, Int.reduceNeg, Int.reduceToNat, Int.reduceLT, Int.reduceLE, Int.reduceEq, ↓reduceIte, List.reverse_cons, Option.toList, List.cons_append, List.nil_append, vI_inj, vL_inj, vO_inj, rI, rL, rO, rV, mI_sQ, mL_sQ, mK_sQ, mS_sQ, mQ_s1, mQ_s2, iL_and, iL_or, iL_xor, iL_shl, iL_ushr, iR_and, iR_or, iR_xor, iR_shl, iR_shr, iR_ushr, iR_cmp, yc0, tlX8_reads, tkX8_reads, o_aload, o_getI, o_getR, o_goto, o_iald, o_iast, o_ic, o_iceq, o_icge, o_icne, o_ifeq, o_iload, o_putI, o_vret, c0, c97, s5]
      try simp +contextual (disch := omega) only [impF, impT, and_true, true_and, implies_true, not_false_eq_true, not_true_eq_false]
      exact hnx
def rcP (h : zH) (x : Nat ⊕ (Int × Int × List (Int × Int))) (h' : zH) : Prop := match x with
  | .inl j => gI h' 93 8 = (j : Int)
  | .inr x => gI h' 93 8 = -1 ∧ gI h' 97 3 = x.1 ∧ gI h' 97 2 = x.2.1 ∧ bts h' 36 x.2.2 ∧ ∀ k, k ≠ 2 → k ≠ 3 → k < 36 → gI h' 97 k = gI h 97 k
theorem rdD_fb {t : Nat → Int} {n i : Nat} {fb : Int} {x : Int × Int × List (Int × Int)} (h : rdD t n i fb = .inr x) : x.1 = fb := by
  unfold rdD at h
  split at h
  · split at h
    · cases h
      rfl
    · cases h
  · cases h
theorem rcP.of {h h1 h' : zH} {t : Nat → Int} {n i : Nat} {fb : Int} (e3 : gI h1 97 3 = fb) (eo : ∀ k, k ≠ 3 → gI h1 97 k = gI h 97 k) (hp : rdP h1 (rdD t n i fb) h') : rcP h (rdD t n i fb) h' := by
  cases hD : rdD t n i fb with
  | inl j =>
    rw [hD] at hp
    exact hp
  | inr x =>
    have := rdD_fb hD
    rw [hD] at hp
    obtain ⟨a1, a2, a3, a4⟩ := hp
    exact ⟨a1, by rw [a4 3 (by omega) (by omega), e3, this], a2, a3, fun k w1 w2 w3 => by rw [a4 k w1 w3]; exact eo k w2⟩
theorem rd_77 (l : Launch) (G : zG) (h : zH) (QQ : Option zV → zH → Prop) (t : Nat → Int) (n i : Nat) (b : Int) (hR : RS h t n i (-1)) (lv : Nat) (hlv : 6 ≤ lv) (K : ∀ h', RK h h' → rcP h (rdC t n i) h' → QQ none h') : z_X l G mtX8_reads lv 0 0 (QQ) 0 0 (h) 77 [vR 93, vI b] [] := by
  have c0 := hR.1.1
  have hi := hR.2.2.2.1
  have hn := hR.n40
  have hts := sm_takesSign l G h t n i (-1) 58 hR (by omega) 3 (by omega)
  by_cases q : ck t n i = 58
  · have hi1 : i + 1 ≤ n := ck_lt (t := t) (n := n) (i := i) (by omega)
    have hskn := (sk_le t hi1).2
    have hR1 := hR.at _ hskn
    have hK1 : RK h (sI h 93 7 (sk t n (i + 1) : Int)) := RK.i (Or.inl rfl)
    have eo1 : gI (sI h 93 7 (sk t n (i + 1) : Int)) 97 = gI h 97 := sI_ne (by omega)
    have step : z_X l G mtX8_reads lv 0 0 (QQ) 0 0 (sI h 93 7 (sk t n (i + 1) : Int)) 83 [vR 93, vI b] [] := by
      generalize sI h 93 7 (sk t n (i + 1) : Int) = h1 at *
      have c1 := hR1.1.1
      have c97 := hR1.1.2.1.2.2.2.1
      have s5 := hR1.1.2.2.2.1.2.2.2.1
      have hcr := hR1.ck (sk t n (i + 1))
      have hnx := sm_next l G h1 t n (sk t n (i + 1)) (-1) hR1 1 (by omega)
      have hC : rdC t n i = if ck t n (sk t n (i + 1)) = 33 then rdD t n (sk t n (sk t n (i + 1) + 1)) 1 else rdD t n (sk t n (i + 1)) 0 := by
        unfold rdC
        rw [if_pos q]
      rw [hC] at K
      generalize sk t n (i + 1) = j at *
      by_cases q2 : ck t n j = 33
      · rw [if_pos q2] at K
        have hj1 : j + 1 ≤ n := ck_lt (t := t) (n := n) (i := j) (by omega)
        have hR2 := hR1.s 3 1
        have hts2 := sm_takesSign l G _ t n j (-1) 33 hR2 (by omega) 3 (by omega)
        have hR3 := hR2.at _ (sk_le t hj1).2
        have hnx2 := rd_119 l G _ QQ t n (sk t n (j + 1)) b 1 hR3 lv hlv (fun h' k1 k2 => K h' ((hK1.tr (RK.s.tr (RK.i (Or.inl rfl)))).tr k1) (rcP.of (by rw [mI_s2 _ _ (Or.inl (by omega)), mI_s1]) (fun k hk => by rw [mI_s2 _ _ (Or.inl (by omega)), mI_s2 _ _ (Or.inr hk), eo1]) k2))
        rw [q2] at hnx
        clear K hC
        refine z_run1 tsX8_reads [] 30 ?_
        simp (maxSteps := 1000000) -implicitDefEqProofs +contextual (disch := omega) only [z_wp_t, z_wp_u, ↓pI_e, ↓pL_e, ↓pO_e, ↓pR_e, ↓p1_I, ↓p1_O, z_gl, z_st1, z_st2, z_nl_I, z_nl_O, z_nl_J, z_nl_L, if_true, if_false, ite_true, ite_false, true_and, and_true, List.mem_cons, List.not_mem_nil, or_false, false_or, or_self, List.length_cons, List.length_nil, InR_t, InL_t, z_ix_t, mI_s1, mI_s2, ↓brT, ↓brF, ↓brT', ↓brF', mL_sI, mR_sI, mK_sI, mS_sI, mI_sL, mL_s1, mL_s2, mR_sL, mK_sL, mS_sL, mI_sR, mL_sR, mR_s1, mR_s2, mK_sR, mS_sR, mA_s1, mA_s2, mL_sA, mR_sA, mK_sA, mS_sA, ix_n, ix_a, ix_m, ix_s, z_sw, z_stop, forall_const, true_implies, false_implies, imp_self, implies_true, not_true_eq_false, not_false_eq_true, ne_eq, eq_self, Option.some.injEq, reduceCtorEq, Nat.reduceAdd, Nat.reduceSub, Nat.reduceMul, Nat.reduceEqDiff, Nat.reduceLT, Nat.reduceLeDiff, Int.reduceAdd, Int.reduceMul, Int.reduceSub, Int.reduceNeg, Int.reduceToNat, Int.reduceLT, Int.reduceLE, Int.reduceEq, ↓reduceIte, List.reverse_cons, Option.toList, List.cons_append, List.nil_append, vI_inj, vL_inj, vO_inj, rI, rL, rO, rV, mI_sQ, mL_sQ, mK_sQ, mS_sQ, mQ_s1, mQ_s2, iL_and, iL_or, iL_xor, iL_shl, iL_ushr, iR_and, iR_or, iR_xor, iR_shl, iR_shr, iR_ushr, iR_cmp, yc0, tlX8_reads, tkX8_reads, o_aload, o_getI, o_getR, o_goto, o_iald, o_iast, o_ic, o_iceq, o_icge, o_icne, o_ifeq, o_iload, o_putI, o_vret, c1, s5]
        try simp +contextual (disch := omega) only [impF, impT, and_true, true_and, implies_true, not_false_eq_true, not_true_eq_false]
        refine x_callV (by decide +kernel) cv_X8_91 (hnx) c1 (by omega) rfl (by omega) (by omega) rfl (Nat.le_of_ble_eq_true rfl) ?_
        rintro r h' ⟨rfl, hE⟩
        subst h'
        refine z_run1 tsX8_reads [] 30 ?_
        simp (maxSteps := 1000000) -implicitDefEqProofs +contextual (disch := omega) only [z_wp_t, z_wp_u, ↓pI_e, ↓pL_e, ↓pO_e, ↓pR_e, ↓p1_I, ↓p1_O, z_gl, z_st1, z_st2, z_nl_I, z_nl_O, z_nl_J, z_nl_L, if_true, if_false, ite_true, ite_false, true_and, and_true, List.mem_cons, List.not_mem_nil, or_false, false_or, or_self, List.length_cons, List.length_nil, InR_t, InL_t, z_ix_t, mI_s1, mI_s2, ↓brT, ↓brF, ↓brT', ↓brF', mL_sI, mR_sI, mK_sI, mS_sI, mI_sL, mL_s1, mL_s2, mR_sL, mK_sL, mS_sL, mI_sR, mL_sR, mR_s1, mR_s2, mK_sR, mS_sR, mA_s1, mA_s2, mL_sA, mR_sA, mK_sA, mS_sA, ix_n, ix_a, ix_m, ix_s, z_sw, z_stop, forall_const, true_implies, false_implies, imp_self, implies_true, not_true_eq_false, not_false_eq_true, ne_eq, eq_self, Option.some.injEq, reduceCtorEq, Nat.reduceAdd, Nat.reduceSub, Nat.reduceMul, Nat.reduceEqDiff, Nat.reduceLT, Nat.reduceLeDiff, Int.reduceAdd, Int.reduceMul, Int.reduceSub, Int.reduceNeg, Int.reduceToNat, Int.reduceLT, Int.reduceLE, Int.reduceEq, ↓reduceIte, List.reverse_cons, Option.toList, List.cons_append, List.nil_append, vI_inj, vL_inj, vO_inj, rI, rL, rO, rV, mI_sQ, mL_sQ, mK_sQ, mS_sQ, mQ_s1, mQ_s2, iL_and, iL_or, iL_xor, iL_shl, iL_ushr, iR_and, iR_or, iR_xor, iR_shl, iR_shr, iR_ushr, iR_cmp, yc0, tlX8_reads, tkX8_reads, o_aload, o_getI, o_getR, o_goto, o_iald, o_iast, o_ic, o_iceq, o_icge, o_icne, o_ifeq, o_iload, o_putI, o_vret, c1, c97, s5]
        try simp +contextual (disch := omega) only [impF, impT, and_true, true_and, implies_true, not_false_eq_true, not_true_eq_false]
        refine x_callV (by decide +kernel) cv_X8_131 (hts2) c1 (by omega) rfl (by omega) (by omega) rfl (Nat.le_of_ble_eq_true rfl) ?_
        rintro r h' ⟨rfl, ⟨-, -, -, hE⟩ | ⟨w, -⟩⟩
        · subst h'
          exact hnx2
        · exact absurd ⟨rfl, q2⟩ w
      · rw [if_neg q2] at K
        have hR2 := hR1.s 3 0
        have hnx2 := rd_119 l G _ QQ t n j b 0 hR2 lv hlv (fun h' k1 k2 => K h' ((hK1.tr RK.s).tr k1) (rcP.of (mI_s1 _ _ _ _) (fun k hk => by rw [mI_s2 _ _ (Or.inr hk), eo1]) k2))
        clear K hC
        generalize ck t n j = c at *
        refine z_run1 tsX8_reads [] 30 ?_
        simp (maxSteps := 1000000) -implicitDefEqProofs +contextual (disch := omega) only [z_wp_t, z_wp_u, ↓pI_e, ↓pL_e, ↓pO_e, ↓pR_e, ↓p1_I, ↓p1_O, z_gl, z_st1, z_st2, z_nl_I, z_nl_O, z_nl_J, z_nl_L, if_true, if_false, ite_true, ite_false, true_and, and_true, List.mem_cons, List.not_mem_nil, or_false, false_or, or_self, List.length_cons, List.length_nil, InR_t, InL_t, z_ix_t, mI_s1, mI_s2, ↓brT, ↓brF, ↓brT', ↓brF', mL_sI, mR_sI, mK_sI, mS_sI, mI_sL, mL_s1, mL_s2, mR_sL, mK_sL, mS_sL, mI_sR, mL_sR, mR_s1, mR_s2, mK_sR, mS_sR, mA_s1, mA_s2, mL_sA, mR_sA, mK_sA, mS_sA, ix_n, ix_a, ix_m, ix_s, z_sw, z_stop, forall_const, true_implies, false_implies, imp_self, implies_true, not_true_eq_false, not_false_eq_true, ne_eq, eq_self, Option.some.injEq, reduceCtorEq, Nat.reduceAdd, Nat.reduceSub, Nat.reduceMul, Nat.reduceEqDiff, Nat.reduceLT, Nat.reduceLeDiff, Int.reduceAdd, Int.reduceMul, Int.reduceSub, Int.reduceNeg, Int.reduceToNat, Int.reduceLT, Int.reduceLE, Int.reduceEq, ↓reduceIte, List.reverse_cons, Option.toList, List.cons_append, List.nil_append, vI_inj, vL_inj, vO_inj, rI, rL, rO, rV, mI_sQ, mL_sQ, mK_sQ, mS_sQ, mQ_s1, mQ_s2, iL_and, iL_or, iL_xor, iL_shl, iL_ushr, iR_and, iR_or, iR_xor, iR_shl, iR_shr, iR_ushr, iR_cmp, yc0, tlX8_reads, tkX8_reads, o_aload, o_getI, o_getR, o_goto, o_iald, o_iast, o_ic, o_iceq, o_icge, o_icne, o_ifeq, o_iload, o_putI, o_vret, c1, s5]
        try simp +contextual (disch := omega) only [impF, impT, and_true, true_and, implies_true, not_false_eq_true, not_true_eq_false]
        refine x_callV (by decide +kernel) cv_X8_91 (hnx) c1 (by omega) rfl (by omega) (by omega) rfl (Nat.le_of_ble_eq_true rfl) ?_
        rintro r h' ⟨rfl, hE⟩
        subst h'
        refine z_run1 tsX8_reads [119] 30 ?_
        simp (maxSteps := 1000000) -implicitDefEqProofs +contextual (disch := omega) only [z_wp_t, z_wp_u, ↓pI_e, ↓pL_e, ↓pO_e, ↓pR_e, ↓p1_I, ↓p1_O, z_gl, z_st1, z_st2, z_nl_I, z_nl_O, z_nl_J, z_nl_L, if_true, if_false, ite_true, ite_false, true_and, and_true, List.mem_cons, List.not_mem_nil, or_false, false_or, or_self, List.length_cons, List.length_nil, InR_t, InL_t, z_ix_t, mI_s1, mI_s2, ↓brT, ↓brF, ↓brT', ↓brF', mL_sI, mR_sI, mK_sI, mS_sI, mI_sL, mL_s1, mL_s2, mR_sL, mK_sL, mS_sL, mI_sR, mL_sR, mR_s1, mR_s2, mK_sR, mS_sR, mA_s1, mA_s2, mL_sA, mR_sA, mK_sA, mS_sA, ix_n, ix_a, ix_m, ix_s, z_sw, z_stop, forall_const, true_implies, false_implies, imp_self, implies_true, not_true_eq_false, not_false_eq_true, ne_eq, eq_self, Option.some.injEq, reduceCtorEq, Nat.reduceAdd, Nat.reduceSub, Nat.reduceMul, Nat.reduceEqDiff, Nat.reduceLT, Nat.reduceLeDiff, Int.reduceAdd, Int.reduceMul, Int.reduceSub, Int.reduceNeg, Int.reduceToNat, Int.reduceLT, Int.reduceLE, Int.reduceEq, ↓reduceIte, List.reverse_cons, Option.toList, List.cons_append, List.nil_append, vI_inj, vL_inj, vO_inj, rI, rL, rO, rV, mI_sQ, mL_sQ, mK_sQ, mS_sQ, mQ_s1, mQ_s2, iL_and, iL_or, iL_xor, iL_shl, iL_ushr, iR_and, iR_or, iR_xor, iR_shl, iR_shr, iR_ushr, iR_cmp, yc0, tlX8_reads, tkX8_reads, o_aload, o_getI, o_getR, o_goto, o_iald, o_iast, o_ic, o_iceq, o_icge, o_icne, o_ifeq, o_iload, o_putI, o_vret, c1, c97, s5]
        try simp +contextual (disch := omega) only [impF, impT, and_true, true_and, implies_true, not_false_eq_true, not_true_eq_false]
        exact hnx2
    clear K
    refine z_run1 tsX8_reads [] 30 ?_
    simp (maxSteps := 1000000) -implicitDefEqProofs +contextual (disch := omega) only [z_wp_t, z_wp_u, ↓pI_e, ↓pL_e, ↓pO_e, ↓pR_e, ↓p1_I, ↓p1_O, z_gl, z_st1, z_st2, z_nl_I, z_nl_O, z_nl_J, z_nl_L, if_true, if_false, ite_true, ite_false, true_and, and_true, List.mem_cons, List.not_mem_nil, or_false, false_or, or_self, List.length_cons, List.length_nil, InR_t, InL_t, z_ix_t, mI_s1, mI_s2, ↓brT, ↓brF, ↓brT', ↓brF', mL_sI, mR_sI, mK_sI, mS_sI, mI_sL, mL_s1, mL_s2, mR_sL, mK_sL, mS_sL, mI_sR, mL_sR, mR_s1, mR_s2, mK_sR, mS_sR, mA_s1, mA_s2, mL_sA, mR_sA, mK_sA, mS_sA, ix_n, ix_a, ix_m, ix_s, z_sw, z_stop, forall_const, true_implies, false_implies, imp_self, implies_true, not_true_eq_false, not_false_eq_true, ne_eq, eq_self, Option.some.injEq, reduceCtorEq, Nat.reduceAdd, Nat.reduceSub, Nat.reduceMul, Nat.reduceEqDiff, Nat.reduceLT, Nat.reduceLeDiff, Int.reduceAdd, Int.reduceMul, Int.reduceSub, Int.reduceNeg, Int.reduceToNat, Int.reduceLT, Int.reduceLE, Int.reduceEq, ↓reduceIte, List.reverse_cons, Option.toList, List.cons_append, List.nil_append, vI_inj, vL_inj, vO_inj, rI, rL, rO, rV, mI_sQ, mL_sQ, mK_sQ, mS_sQ, mQ_s1, mQ_s2, iL_and, iL_or, iL_xor, iL_shl, iL_ushr, iR_and, iR_or, iR_xor, iR_shl, iR_shr, iR_ushr, iR_cmp, yc0, tlX8_reads, tkX8_reads, o_aload, o_getI, o_getR, o_goto, o_iald, o_iast, o_ic, o_iceq, o_icge, o_icne, o_ifeq, o_iload, o_putI, o_vret]
    try simp +contextual (disch := omega) only [impF, impT, and_true, true_and, implies_true, not_false_eq_true, not_true_eq_false]
    refine x_callV (by decide +kernel) cv_X8_131 (hts) c0 (by omega) rfl (by omega) (by omega) rfl (Nat.le_of_ble_eq_true rfl) ?_
    rintro r h' ⟨rfl, ⟨-, -, -, hE⟩ | ⟨w, -⟩⟩
    · subst h'
      exact step
    · exact absurd ⟨rfl, q⟩ w
  · have hC : rdC t n i = .inl i := by
      unfold rdC
      rw [if_neg q]
    rw [hC] at K
    have hR2 := hR.fl (i : Int) (by omega)
    have hnx2 := rd_83F l G _ QQ t n i (i : Int) b hR2 (by omega) lv hlv (fun h' k1 k2 => K h' (RK.tr (RK.i (Or.inr rfl)) k1) k2)
    clear K hC
    refine z_run1 tsX8_reads [] 30 ?_
    simp (maxSteps := 1000000) -implicitDefEqProofs +contextual (disch := omega) only [z_wp_t, z_wp_u, ↓pI_e, ↓pL_e, ↓pO_e, ↓pR_e, ↓p1_I, ↓p1_O, z_gl, z_st1, z_st2, z_nl_I, z_nl_O, z_nl_J, z_nl_L, if_true, if_false, ite_true, ite_false, true_and, and_true, List.mem_cons, List.not_mem_nil, or_false, false_or, or_self, List.length_cons, List.length_nil, InR_t, InL_t, z_ix_t, mI_s1, mI_s2, ↓brT, ↓brF, ↓brT', ↓brF', mL_sI, mR_sI, mK_sI, mS_sI, mI_sL, mL_s1, mL_s2, mR_sL, mK_sL, mS_sL, mI_sR, mL_sR, mR_s1, mR_s2, mK_sR, mS_sR, mA_s1, mA_s2, mL_sA, mR_sA, mK_sA, mS_sA, ix_n, ix_a, ix_m, ix_s, z_sw, z_stop, forall_const, true_implies, false_implies, imp_self, implies_true, not_true_eq_false, not_false_eq_true, ne_eq, eq_self, Option.some.injEq, reduceCtorEq, Nat.reduceAdd, Nat.reduceSub, Nat.reduceMul, Nat.reduceEqDiff, Nat.reduceLT, Nat.reduceLeDiff, Int.reduceAdd, Int.reduceMul, Int.reduceSub, Int.reduceNeg, Int.reduceToNat, Int.reduceLT, Int.reduceLE, Int.reduceEq, ↓reduceIte, List.reverse_cons, Option.toList, List.cons_append, List.nil_append, vI_inj, vL_inj, vO_inj, rI, rL, rO, rV, mI_sQ, mL_sQ, mK_sQ, mS_sQ, mQ_s1, mQ_s2, iL_and, iL_or, iL_xor, iL_shl, iL_ushr, iR_and, iR_or, iR_xor, iR_shl, iR_shr, iR_ushr, iR_cmp, yc0, tlX8_reads, tkX8_reads, o_aload, o_getI, o_getR, o_goto, o_iald, o_iast, o_ic, o_iceq, o_icge, o_icne, o_ifeq, o_iload, o_putI, o_vret]
    try simp +contextual (disch := omega) only [impF, impT, and_true, true_and, implies_true, not_false_eq_true, not_true_eq_false]
    refine x_callV (by decide +kernel) cv_X8_131 (hts) c0 (by omega) rfl (by omega) (by omega) rfl (Nat.le_of_ble_eq_true rfl) ?_
    rintro r h' ⟨rfl, ⟨-, w, -⟩ | ⟨-, hE⟩⟩
    · exact absurd w q
    · rw [if_pos rfl] at hE
      subst h'
      exact hnx2
