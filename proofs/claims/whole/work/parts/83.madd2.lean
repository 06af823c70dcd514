/-! the reference: fault, contains, add -/
set_option maxHeartbeats 4000000 in
theorem sm_fault (l : Launch) (G : zG) (h : zH) (s : zS) (b : Int) (hM : MI h s) (hb : b = 0 ∨ b = 1) (lv : Nat) (hlv : 7 ≤ lv) : z_Sp l G mtX8_fault lv 0 0 [vR 93, vI b] (h) (mQ h (fFault s b, s)) := by
  refine x_enter [vR 93, vI b] (by decide +kernel) (by omega) rfl (Nat.le_of_ble_eq_true rfl) ?_
  generalize hQ : mQ h (fFault s b, s) = QQ
  have c0 := hM.1.1
  obtain rfl | rfl := hb
  · have hr := sm_reads0 l G h (sTx s) (sTn s) hM.1 hM.2.2.2.1 6 (by omega)
    refine z_run1 tsX8_fault [] 20 ?_
    simp (maxSteps := 1000000) -implicitDefEqProofs +contextual (disch := omega) only [z_wp_t, z_wp_u, ↓pI_e, ↓pL_e, ↓pO_e, ↓pR_e, ↓p1_I, ↓p1_O, z_gl, z_st1, z_st2, z_nl_I, z_nl_O, z_nl_J, z_nl_L, if_true, if_false, ite_true, ite_false, true_and, and_true, List.mem_cons, List.not_mem_nil, or_false, false_or, or_self, List.length_cons, List.length_nil, InR_t, InL_t, z_ix_t, mI_s1, mI_s2, ↓brT, ↓brF, ↓brT', ↓brF', mL_sI, mR_sI, mK_sI, mS_sI, mI_sL, mL_s1, mL_s2, mR_sL, mK_sL, mS_sL, mI_sR, mL_sR, mR_s1, mR_s2, mK_sR, mS_sR, mA_s1, mA_s2, mL_sA, mR_sA, mK_sA, mS_sA, ix_n, ix_a, ix_m, ix_s, z_sw, z_stop, forall_const, true_implies, false_implies, imp_self, implies_true, not_true_eq_false, not_false_eq_true, ne_eq, eq_self, Option.some.injEq, reduceCtorEq, Nat.reduceAdd, Nat.reduceSub, Nat.reduceMul, Nat.reduceEqDiff, Nat.reduceLT, Nat.reduceLeDiff, Int.reduceAdd, Int.reduceMul, Int.reduceSub, Int.reduceNeg, Int.reduceToNat, Int.reduceLT, Int.reduceLE, Int.reduceEq, ↓reduceIte, List.reverse_cons, Option.toList, List.cons_append, List.nil_append, vI_inj, vL_inj, vO_inj, rI, rL, rO, rV, mI_sQ, mL_sQ, mK_sQ, mS_sQ, mQ_s1, mQ_s2, iL_and, iL_or, iL_xor, iL_shl, iL_ushr, iR_and, iR_or, iR_xor, iR_shl, iR_shr, iR_ushr, iR_cmp, yc0, tlX8_fault, tkX8_fault, o_aload, o_getI, o_iload, o_iret]
    try simp +contextual (disch := omega) only [impF, impT, and_true, true_and, implies_true, not_false_eq_true, not_true_eq_false]
    refine x_callV (by decide +kernel) cv_X8_134 (hr) c0 (by omega) rfl (by omega) (by omega) rfl (Nat.le_of_ble_eq_true rfl) ?_
    rintro r h' ⟨rfl, hK, hp⟩
    have c1 := (hM.wk hK.wk).1.1
    have hfin : QQ (some (vI (gI h' 93 8))) h' := by
      rw [← hQ]
      refine ⟨?_, hM.wk hK.wk, hK.wk.mf⟩
      unfold fFault fltX
      rw [if_pos rfl]
      unfold rrP at hp
      cases hx : rdRule (sTx s) (sTn s) with
      | inl j =>
        rw [hx] at hp
        simp only at hp ⊢
        rw [hp]
      | inr d =>
        rw [hx] at hp
        simp only at hp ⊢
        rw [hp.1]
    clear hp hQ
    refine z_run1 tsX8_fault [] 20 ?_
    simp (maxSteps := 1000000) -implicitDefEqProofs +contextual (disch := omega) only [z_wp_t, z_wp_u, ↓pI_e, ↓pL_e, ↓pO_e, ↓pR_e, ↓p1_I, ↓p1_O, z_gl, z_st1, z_st2, z_nl_I, z_nl_O, z_nl_J, z_nl_L, if_true, if_false, ite_true, ite_false, true_and, and_true, List.mem_cons, List.not_mem_nil, or_false, false_or, or_self, List.length_cons, List.length_nil, InR_t, InL_t, z_ix_t, mI_s1, mI_s2, ↓brT, ↓brF, ↓brT', ↓brF', mL_sI, mR_sI, mK_sI, mS_sI, mI_sL, mL_s1, mL_s2, mR_sL, mK_sL, mS_sL, mI_sR, mL_sR, mR_s1, mR_s2, mK_sR, mS_sR, mA_s1, mA_s2, mL_sA, mR_sA, mK_sA, mS_sA, ix_n, ix_a, ix_m, ix_s, z_sw, z_stop, forall_const, true_implies, false_implies, imp_self, implies_true, not_true_eq_false, not_false_eq_true, ne_eq, eq_self, Option.some.injEq, reduceCtorEq, Nat.reduceAdd, Nat.reduceSub, Nat.reduceMul, Nat.reduceEqDiff, Nat.reduceLT, Nat.reduceLeDiff, Int.reduceAdd, Int.reduceMul, Int.reduceSub, Int.reduceNeg, Int.reduceToNat, Int.reduceLT, Int.reduceLE, Int.reduceEq, ↓reduceIte, List.reverse_cons, Option.toList, List.cons_append, List.nil_append, vI_inj, vL_inj, vO_inj, rI, rL, rO, rV, mI_sQ, mL_sQ, mK_sQ, mS_sQ, mQ_s1, mQ_s2, iL_and, iL_or, iL_xor, iL_shl, iL_ushr, iR_and, iR_or, iR_xor, iR_shl, iR_shr, iR_ushr, iR_cmp, yc0, tlX8_fault, tkX8_fault, o_aload, o_getI, o_iload, o_iret, c1]
    try simp +contextual (disch := omega) only [impF, impT, and_true, true_and, implies_true, not_false_eq_true, not_true_eq_false]
    exact hfin
  · have hr := sm_reads1 l G h (sTx s) (sTn s) hM.1 hM.2.2.2.1 6 (by omega)
    refine z_run1 tsX8_fault [] 20 ?_
    simp (maxSteps := 1000000) -implicitDefEqProofs +contextual (disch := omega) only [z_wp_t, z_wp_u, ↓pI_e, ↓pL_e, ↓pO_e, ↓pR_e, ↓p1_I, ↓p1_O, z_gl, z_st1, z_st2, z_nl_I, z_nl_O, z_nl_J, z_nl_L, if_true, if_false, ite_true, ite_false, true_and, and_true, List.mem_cons, List.not_mem_nil, or_false, false_or, or_self, List.length_cons, List.length_nil, InR_t, InL_t, z_ix_t, mI_s1, mI_s2, ↓brT, ↓brF, ↓brT', ↓brF', mL_sI, mR_sI, mK_sI, mS_sI, mI_sL, mL_s1, mL_s2, mR_sL, mK_sL, mS_sL, mI_sR, mL_sR, mR_s1, mR_s2, mK_sR, mS_sR, mA_s1, mA_s2, mL_sA, mR_sA, mK_sA, mS_sA, ix_n, ix_a, ix_m, ix_s, z_sw, z_stop, forall_const, true_implies, false_implies, imp_self, implies_true, not_true_eq_false, not_false_eq_true, ne_eq, eq_self, Option.some.injEq, reduceCtorEq, Nat.reduceAdd, Nat.reduceSub, Nat.reduceMul, Nat.reduceEqDiff, Nat.reduceLT, Nat.reduceLeDiff, Int.reduceAdd, Int.reduceMul, Int.reduceSub, Int.reduceNeg, Int.reduceToNat, Int.reduceLT, Int.reduceLE, Int.reduceEq, ↓reduceIte, List.reverse_cons, Option.toList, List.cons_append, List.nil_append, vI_inj, vL_inj, vO_inj, rI, rL, rO, rV, mI_sQ, mL_sQ, mK_sQ, mS_sQ, mQ_s1, mQ_s2, iL_and, iL_or, iL_xor, iL_shl, iL_ushr, iR_and, iR_or, iR_xor, iR_shl, iR_shr, iR_ushr, iR_cmp, yc0, tlX8_fault, tkX8_fault, o_aload, o_getI, o_iload, o_iret]
    try simp +contextual (disch := omega) only [impF, impT, and_true, true_and, implies_true, not_false_eq_true, not_true_eq_false]
    refine x_callV (by decide +kernel) cv_X8_134 (hr) c0 (by omega) rfl (by omega) (by omega) rfl (Nat.le_of_ble_eq_true rfl) ?_
    rintro r h' ⟨rfl, hK, hp, -⟩
    have c1 := (hM.wk hK.wk).1.1
    have hfin : QQ (some (vI (gI h' 93 8))) h' := by
      rw [← hQ]
      refine ⟨?_, hM.wk hK.wk, hK.wk.mf⟩
      unfold fFault
      rw [if_neg (by omega), hp]
    clear hp hQ
    refine z_run1 tsX8_fault [] 20 ?_
    simp (maxSteps := 1000000) -implicitDefEqProofs +contextual (disch := omega) only [z_wp_t, z_wp_u, ↓pI_e, ↓pL_e, ↓pO_e, ↓pR_e, ↓p1_I, ↓p1_O, z_gl, z_st1, z_st2, z_nl_I, z_nl_O, z_nl_J, z_nl_L, if_true, if_false, ite_true, ite_false, true_and, and_true, List.mem_cons, List.not_mem_nil, or_false, false_or, or_self, List.length_cons, List.length_nil, InR_t, InL_t, z_ix_t, mI_s1, mI_s2, ↓brT, ↓brF, ↓brT', ↓brF', mL_sI, mR_sI, mK_sI, mS_sI, mI_sL, mL_s1, mL_s2, mR_sL, mK_sL, mS_sL, mI_sR, mL_sR, mR_s1, mR_s2, mK_sR, mS_sR, mA_s1, mA_s2, mL_sA, mR_sA, mK_sA, mS_sA, ix_n, ix_a, ix_m, ix_s, z_sw, z_stop, forall_const, true_implies, false_implies, imp_self, implies_true, not_true_eq_false, not_false_eq_true, ne_eq, eq_self, Option.some.injEq, reduceCtorEq, Nat.reduceAdd, Nat.reduceSub, Nat.reduceMul, Nat.reduceEqDiff, Nat.reduceLT, Nat.reduceLeDiff, Int.reduceAdd, Int.reduceMul, Int.reduceSub, Int.reduceNeg, Int.reduceToNat, Int.reduceLT, Int.reduceLE, Int.reduceEq, ↓reduceIte, List.reverse_cons, Option.toList, List.cons_append, List.nil_append, vI_inj, vL_inj, vO_inj, rI, rL, rO, rV, mI_sQ, mL_sQ, mK_sQ, mS_sQ, mQ_s1, mQ_s2, iL_and, iL_or, iL_xor, iL_shl, iL_ushr, iR_and, iR_or, iR_xor, iR_shl, iR_shr, iR_ushr, iR_cmp, yc0, tlX8_fault, tkX8_fault, o_aload, o_getI, o_iload, o_iret, c1]
    try simp +contextual (disch := omega) only [impF, impT, and_true, true_and, implies_true, not_false_eq_true, not_true_eq_false]
    exact hfin
set_option maxHeartbeats 4000000 in
theorem sm_contains (l : Launch) (G : zG) (h : zH) (s : zS) (v : Int) (hM : MI h s) (hv : InR v) (lv : Nat) (hlv : 7 ≤ lv) : z_Sp l G mtX8_contains lv 0 0 [vR 93, vI v] (h) (mQ h (fContains s v, s)) := by
  refine x_enter [vR 93, vI v] (by decide +kernel) (by omega) rfl (Nat.le_of_ble_eq_true rfl) ?_
  generalize hQ : mQ h (fContains s v, s) = QQ
  have c0 := hM.1.1
  refine z_run1 tsX8_contains [] 20 ?_
  simp (maxSteps := 1000000) -implicitDefEqProofs +contextual (disch := omega) only [z_wp_t, z_wp_u, ↓pI_e, ↓pL_e, ↓pO_e, ↓pR_e, ↓p1_I, ↓p1_O, z_gl, z_st1, z_st2, z_nl_I, z_nl_O, z_nl_J, z_nl_L, if_true, if_false, ite_true, ite_false, true_and, and_true, List.mem_cons, List.not_mem_nil, or_false, false_or, or_self, List.length_cons, List.length_nil, InR_t, InL_t, z_ix_t, mI_s1, mI_s2, ↓brT, ↓brF, ↓brT', ↓brF', mL_sI, mR_sI, mK_sI, mS_sI, mI_sL, mL_s1, mL_s2, mR_sL, mK_sL, mS_sL, mI_sR, mL_sR, mR_s1, mR_s2, mK_sR, mS_sR, mA_s1, mA_s2, mL_sA, mR_sA, mK_sA, mS_sA, ix_n, ix_a, ix_m, ix_s, z_sw, z_stop, forall_const, true_implies, false_implies, imp_self, implies_true, not_true_eq_false, not_false_eq_true, ne_eq, eq_self, Option.some.injEq, reduceCtorEq, Nat.reduceAdd, Nat.reduceSub, Nat.reduceMul, Nat.reduceEqDiff, Nat.reduceLT, Nat.reduceLeDiff, Int.reduceAdd, Int.reduceMul, Int.reduceSub, Int.reduceNeg, Int.reduceToNat, Int.reduceLT, Int.reduceLE, Int.reduceEq, ↓reduceIte, List.reverse_cons, Option.toList, List.cons_append, List.nil_append, vI_inj, vL_inj, vO_inj, rI, rL, rO, rV, mI_sQ, mL_sQ, mK_sQ, mS_sQ, mQ_s1, mQ_s2, iL_and, iL_or, iL_xor, iL_shl, iL_ushr, iR_and, iR_or, iR_xor, iR_shl, iR_shr, iR_ushr, iR_cmp, yc0, tlX8_contains, tkX8_contains, o_aload, o_getI, o_getR, o_goto, o_iadd, o_iald, o_iand, o_ic, o_iceq, o_idiv, o_ifne, o_iload, o_irem, o_iret, o_ishr]
  try simp +contextual (disch := omega) only [impF, impT, and_true, true_and, implies_true, not_false_eq_true, not_true_eq_false]
  refine x_callS (by decide +kernel) cv_X8_68 (sm_isVersion l G h v hv 2 (by omega)) (by omega) rfl (by omega) (by omega) rfl (Nat.le_of_ble_eq_true rfl) ?_
  rintro r h' ⟨rfl, hE⟩
  subst h'
  cases hov : okV v
  · simp only [Bool.false_eq_true, if_false]
    refine z_run1 tsX8_contains [] 20 ?_
    simp (maxSteps := 1000000) -implicitDefEqProofs +contextual (disch := omega) only [z_wp_t, z_wp_u, ↓pI_e, ↓pL_e, ↓pO_e, ↓pR_e, ↓p1_I, ↓p1_O, z_gl, z_st1, z_st2, z_nl_I, z_nl_O, z_nl_J, z_nl_L, if_true, if_false, ite_true, ite_false, true_and, and_true, List.mem_cons, List.not_mem_nil, or_false, false_or, or_self, List.length_cons, List.length_nil, InR_t, InL_t, z_ix_t, mI_s1, mI_s2, ↓brT, ↓brF, ↓brT', ↓brF', mL_sI, mR_sI, mK_sI, mS_sI, mI_sL, mL_s1, mL_s2, mR_sL, mK_sL, mS_sL, mI_sR, mL_sR, mR_s1, mR_s2, mK_sR, mS_sR, mA_s1, mA_s2, mL_sA, mR_sA, mK_sA, mS_sA, ix_n, ix_a, ix_m, ix_s, z_sw, z_stop, forall_const, true_implies, false_implies, imp_self, implies_true, not_true_eq_false, not_false_eq_true, ne_eq, eq_self, Option.some.injEq, reduceCtorEq, Nat.reduceAdd, Nat.reduceSub, Nat.reduceMul, Nat.reduceEqDiff, Nat.reduceLT, Nat.reduceLeDiff, Int.reduceAdd, Int.reduceMul, Int.reduceSub, Int.reduceNeg, Int.reduceToNat, Int.reduceLT, Int.reduceLE, Int.reduceEq, ↓reduceIte, List.reverse_cons, Option.toList, List.cons_append, List.nil_append, vI_inj, vL_inj, vO_inj, rI, rL, rO, rV, mI_sQ, mL_sQ, mK_sQ, mS_sQ, mQ_s1, mQ_s2, iL_and, iL_or, iL_xor, iL_shl, iL_ushr, iR_and, iR_or, iR_xor, iR_shl, iR_shr, iR_ushr, iR_cmp, yc0, tlX8_contains, tkX8_contains, o_aload, o_getI, o_getR, o_goto, o_iadd, o_iald, o_iand, o_ic, o_iceq, o_idiv, o_ifne, o_iload, o_irem, o_iret, o_ishr]
    try simp +contextual (disch := omega) only [impF, impT, and_true, true_and, implies_true, not_false_eq_true, not_true_eq_false]
    rw [← hQ, fContains, hov]
    exact ⟨rfl, hM, MF.rf⟩
  · simp only [if_true]
    have hv2 := okV_t hov
    rw [fContains, hov] at hQ
    simp only [if_true] at hQ
    obtain ⟨V, rfl⟩ := Int.eq_ofNat_of_zero_le hv2.1
    have hr := sm_reads1 l G h (sTx s) (sTn s) hM.1 hM.2.2.2.1 6 (by omega)
    have hfb : -1 ≤ fltR (sTx s) (sTn s) ∧ fltR (sTx s) (sTn s) ≤ 40 := by
      have := (pRg_ok (t := sTx s) 20 (sk (sTx s) (sTn s) 0) [] (sk_le (sTx s) (Nat.zero_le (sTn s))).2).2
      have := hM.2.2.2.1.2.1
      unfold fltR
      split <;> omega
    refine z_run1 tsX8_contains [] 20 ?_
    simp (maxSteps := 1000000) -implicitDefEqProofs +contextual (disch := omega) only [z_wp_t, z_wp_u, ↓pI_e, ↓pL_e, ↓pO_e, ↓pR_e, ↓p1_I, ↓p1_O, z_gl, z_st1, z_st2, z_nl_I, z_nl_O, z_nl_J, z_nl_L, if_true, if_false, ite_true, ite_false, true_and, and_true, List.mem_cons, List.not_mem_nil, or_false, false_or, or_self, List.length_cons, List.length_nil, InR_t, InL_t, z_ix_t, mI_s1, mI_s2, ↓brT, ↓brF, ↓brT', ↓brF', mL_sI, mR_sI, mK_sI, mS_sI, mI_sL, mL_s1, mL_s2, mR_sL, mK_sL, mS_sL, mI_sR, mL_sR, mR_s1, mR_s2, mK_sR, mS_sR, mA_s1, mA_s2, mL_sA, mR_sA, mK_sA, mS_sA, ix_n, ix_a, ix_m, ix_s, z_sw, z_stop, forall_const, true_implies, false_implies, imp_self, implies_true, not_true_eq_false, not_false_eq_true, ne_eq, eq_self, Option.some.injEq, reduceCtorEq, Nat.reduceAdd, Nat.reduceSub, Nat.reduceMul, Nat.reduceEqDiff, Nat.reduceLT, Nat.reduceLeDiff, Int.reduceAdd, Int.reduceMul, Int.reduceSub, Int.reduceNeg, Int.reduceToNat, Int.reduceLT, Int.reduceLE, Int.reduceEq, ↓reduceIte, List.reverse_cons, Option.toList, List.cons_append, List.nil_append, vI_inj, vL_inj, vO_inj, rI, rL, rO, rV, mI_sQ, mL_sQ, mK_sQ, mS_sQ, mQ_s1, mQ_s2, iL_and, iL_or, iL_xor, iL_shl, iL_ushr, iR_and, iR_or, iR_xor, iR_shl, iR_shr, iR_ushr, iR_cmp, yc0, tlX8_contains, tkX8_contains, o_aload, o_getI, o_getR, o_goto, o_iadd, o_iald, o_iand, o_ic, o_iceq, o_idiv, o_ifne, o_iload, o_irem, o_iret, o_ishr]
    try simp +contextual (disch := omega) only [impF, impT, and_true, true_and, implies_true, not_false_eq_true, not_true_eq_false]
    refine x_callV (by decide +kernel) cv_X8_134 (hr) c0 (by omega) rfl (by omega) (by omega) rfl (Nat.le_of_ble_eq_true rfl) ?_
    rintro r h' ⟨rfl, hK, hp, hbt⟩
    have hM1 := hM.wk hK.wk
    have c1 := hM1.1.1
    have c97 := hM1.1.2.1.2.2.2.1
    have s5 := hM1.1.2.2.2.1.2.2.2.1
    generalize hfl : fltR (sTx s) (sTn s) = f at *
    by_cases q : f = -1
    · rw [if_pos q] at hQ
      have hb := hbt q V (by omega)
      rw [q] at hp
      have hd : ((V : Int)).tdiv 32 = ((V / 32 : Nat) : Int) := tdN (x := V) (y := 32)
      have hmd : ((V : Int)).tmod 32 = ((V % 32 : Nat) : Int) := tmN (x := V) (y := 32) (by omega)
      have hbit := z_bit (gI h' 97 (4 + V / 32)) (k := V % 32) (by omega)
      rw [hb] at hbit
      have hfin : QQ (some (vI (if inL (pRg (sTx s) (sTn s) 20 (sk (sTx s) (sTn s) 0) []).2.2 (V : Int) = true then 1 else 0))) h' := by
        rw [← hQ]
        exact ⟨rfl, hM1, hK.wk.mf⟩
      clear hQ hbt hb
      have h32 : V / 32 < 32 := by omega
      have hm32 : V % 32 < 32 := by omega
      generalize V / 32 = v1 at *
      generalize V % 32 = v2 at *
      refine z_run1 tsX8_contains [] 40 ?_
      simp (maxSteps := 1000000) -implicitDefEqProofs +contextual (disch := omega) only [z_wp_t, z_wp_u, ↓pI_e, ↓pL_e, ↓pO_e, ↓pR_e, ↓p1_I, ↓p1_O, z_gl, z_st1, z_st2, z_nl_I, z_nl_O, z_nl_J, z_nl_L, if_true, if_false, ite_true, ite_false, true_and, and_true, List.mem_cons, List.not_mem_nil, or_false, false_or, or_self, List.length_cons, List.length_nil, InR_t, InL_t, z_ix_t, mI_s1, mI_s2, ↓brT, ↓brF, ↓brT', ↓brF', mL_sI, mR_sI, mK_sI, mS_sI, mI_sL, mL_s1, mL_s2, mR_sL, mK_sL, mS_sL, mI_sR, mL_sR, mR_s1, mR_s2, mK_sR, mS_sR, mA_s1, mA_s2, mL_sA, mR_sA, mK_sA, mS_sA, ix_n, ix_a, ix_m, ix_s, z_sw, z_stop, forall_const, true_implies, false_implies, imp_self, implies_true, not_true_eq_false, not_false_eq_true, ne_eq, eq_self, Option.some.injEq, reduceCtorEq, Nat.reduceAdd, Nat.reduceSub, Nat.reduceMul, Nat.reduceEqDiff, Nat.reduceLT, Nat.reduceLeDiff, Int.reduceAdd, Int.reduceMul, Int.reduceSub, Int.reduceNeg, Int.reduceToNat, Int.reduceLT, Int.reduceLE, Int.reduceEq, ↓reduceIte, List.reverse_cons, Option.toList, List.cons_append, List.nil_append, vI_inj, vL_inj, vO_inj, rI, rL, rO, rV, mI_sQ, mL_sQ, mK_sQ, mS_sQ, mQ_s1, mQ_s2, iL_and, iL_or, iL_xor, iL_shl, iL_ushr, iR_and, iR_or, iR_xor, iR_shl, iR_shr, iR_ushr, iR_cmp, yc0, tlX8_contains, tkX8_contains, o_aload, o_getI, o_getR, o_goto, o_iadd, o_iald, o_iand, o_ic, o_iceq, o_idiv, o_ifne, o_iload, o_irem, o_iret, o_ishr, c1, c97, s5, hp, hd, hmd, hbit]
      try simp +contextual (disch := omega) only [impF, impT, and_true, true_and, implies_true, not_false_eq_true, not_true_eq_false]
      exact hfin
    · rw [if_neg q] at hQ
      clear hbt
      refine z_run1 tsX8_contains [] 20 ?_
      simp (maxSteps := 1000000) -implicitDefEqProofs +contextual (disch := omega) only [z_wp_t, z_wp_u, ↓pI_e, ↓pL_e, ↓pO_e, ↓pR_e, ↓p1_I, ↓p1_O, z_gl, z_st1, z_st2, z_nl_I, z_nl_O, z_nl_J, z_nl_L, if_true, if_false, ite_true, ite_false, true_and, and_true, List.mem_cons, List.not_mem_nil, or_false, false_or, or_self, List.length_cons, List.length_nil, InR_t, InL_t, z_ix_t, mI_s1, mI_s2, ↓brT, ↓brF, ↓brT', ↓brF', mL_sI, mR_sI, mK_sI, mS_sI, mI_sL, mL_s1, mL_s2, mR_sL, mK_sL, mS_sL, mI_sR, mL_sR, mR_s1, mR_s2, mK_sR, mS_sR, mA_s1, mA_s2, mL_sA, mR_sA, mK_sA, mS_sA, ix_n, ix_a, ix_m, ix_s, z_sw, z_stop, forall_const, true_implies, false_implies, imp_self, implies_true, not_true_eq_false, not_false_eq_true, ne_eq, eq_self, Option.some.injEq, reduceCtorEq, Nat.reduceAdd, Nat.reduceSub, Nat.reduceMul, Nat.reduceEqDiff, Nat.reduceLT, Nat.reduceLeDiff, Int.reduceAdd, Int.reduceMul, Int.reduceSub, Int.reduceNeg, Int.reduceToNat, Int.reduceLT, Int.reduceLE, Int.reduceEq, ↓reduceIte, List.reverse_cons, Option.toList, List.cons_append, List.nil_append, vI_inj, vL_inj, vO_inj, rI, rL, rO, rV, mI_sQ, mL_sQ, mK_sQ, mS_sQ, mQ_s1, mQ_s2, iL_and, iL_or, iL_xor, iL_shl, iL_ushr, iR_and, iR_or, iR_xor, iR_shl, iR_shr, iR_ushr, iR_cmp, yc0, tlX8_contains, tkX8_contains, o_aload, o_getI, o_getR, o_goto, o_iadd, o_iald, o_iand, o_ic, o_iceq, o_idiv, o_ifne, o_iload, o_irem, o_iret, o_ishr, c1, hp]
      try simp +contextual (disch := omega) only [impF, impT, and_true, true_and, implies_true, not_false_eq_true, not_true_eq_false]
      rw [← hQ]
      exact ⟨rfl, hM1, hK.wk.mf⟩
theorem MA.add {g g' : Nat → Int} {A : zA} {R : zRu} {rd : Nat → Int} (hm : MA g A) (hc : aC A < 20) (hr : MRu rd R) (h1 : ∀ j, j < 50 + 68 * aC A → j ≠ 49 → g' j = g j) (h2 : g' 49 = ((aC A + 1 : Nat) : Int)) (h3 : ∀ k, k < 68 → g' (50 + 68 * aC A + k) = rd k) (hA : AOK A) : MA g' (addR A R) := by
  obtain ⟨a1, a2, a3, a4, a5, a6⟩ := hm
  refine ⟨fun p hp => by rw [h1 _ (by omega) (by omega)]; exact a1 p hp, fun p i hp hi => ?_, by rw [h1 _ (by omega) (by omega)]; exact a3, fun p hp => by rw [h1 _ (by omega) (by omega)]; exact a4 p hp, h2, fun r hr' => ?_⟩
  · have := hA.1 p hp
    have hi' : i < aN A p := hi
    rw [h1 _ (by omega) (by omega)]
    exact a2 p i hp hi
  · have hr'' : r < aC A + 1 := hr'
    by_cases e : r = aC A
    · subst e
      have : aR (addR A R) (aC A) = R := up_s _ _ _
      rw [this]
      exact hr.c (fun k hk => h3 k hk)
    · have : aR (addR A R) r = aR A r := up_n _ _ e
      rw [this]
      exact (a6 r (by omega)).c (fun k hk => h1 _ (by omega) (by omega))
set_option maxRecDepth 4000 in
set_option maxHeartbeats 4000000 in
theorem sm_add (l : Launch) (G : zG) (h : zH) (s : zS) (hM : MI h s) (lv : Nat) (hlv : 7 ≤ lv) : z_Sp l G mtX8_add lv 0 0 [vR 93] (h) (mQ h (fAdd s)) := by
  refine x_enter [vR 93, vJ] (by decide +kernel) (by omega) rfl (Nat.le_of_ble_eq_true rfl) ?_
  generalize hQ : mQ h (fAdd s) = QQ
  have c0 := hM.1.1
  have hr := sm_reads0 l G h (sTx s) (sTn s) hM.1 hM.2.2.2.1 6 (by omega)
  refine z_run1 tsX8_add [] 20 ?_
  simp (maxSteps := 1000000) -implicitDefEqProofs +contextual (disch := omega) only [z_wp_t, z_wp_u, ↓pI_e, ↓pL_e, ↓pO_e, ↓pR_e, ↓p1_I, ↓p1_O, z_gl, z_st1, z_st2, z_nl_I, z_nl_O, z_nl_J, z_nl_L, if_true, if_false, ite_true, ite_false, true_and, and_true, List.mem_cons, List.not_mem_nil, or_false, false_or, or_self, List.length_cons, List.length_nil, InR_t, InL_t, z_ix_t, mI_s1, mI_s2, ↓brT, ↓brF, ↓brT', ↓brF', mL_sI, mR_sI, mK_sI, mS_sI, mI_sL, mL_s1, mL_s2, mR_sL, mK_sL, mS_sL, mI_sR, mL_sR, mR_s1, mR_s2, mK_sR, mS_sR, mA_s1, mA_s2, mL_sA, mR_sA, mK_sA, mS_sA, ix_n, ix_a, ix_m, ix_s, z_sw, z_stop, forall_const, true_implies, false_implies, imp_self, implies_true, not_true_eq_false, not_false_eq_true, ne_eq, eq_self, Option.some.injEq, reduceCtorEq, Nat.reduceAdd, Nat.reduceSub, Nat.reduceMul, Nat.reduceEqDiff, Nat.reduceLT, Nat.reduceLeDiff, Int.reduceAdd, Int.reduceMul, Int.reduceSub, Int.reduceNeg, Int.reduceToNat, Int.reduceLT, Int.reduceLE, Int.reduceEq, ↓reduceIte, List.reverse_cons, Option.toList, List.cons_append, List.nil_append, vI_inj, vL_inj, vO_inj, rI, rL, rO, rV, mI_sQ, mL_sQ, mK_sQ, mS_sQ, mQ_s1, mQ_s2, iL_and, iL_or, iL_xor, iL_shl, iL_ushr, iR_and, iR_or, iR_xor, iR_shl, iR_shr, iR_ushr, iR_cmp, yc0, tlX8_add, tkX8_add, o_aload, o_dup2, o_getI, o_getR, o_goto, o_iadd, o_iald, o_iast, o_ic, o_iceq, o_icge, o_icne, o_iinc, o_iload, o_imul, o_iret, o_istore, o_isub, o_putI]
  try simp +contextual (disch := omega) only [impF, impT, and_true, true_and, implies_true, not_false_eq_true, not_true_eq_false]
  refine x_callV (by decide +kernel) cv_X8_134 (hr) c0 (by omega) rfl (by omega) (by omega) rfl (Nat.le_of_ble_eq_true rfl) ?_
  rintro r h1 ⟨rfl, hK, hp⟩
  have hM1 := hM.wk hK.wk
  obtain ⟨hS1, hm1, hH1, hT1, hA⟩ := id hM1
  have c1 := hS1.1
  have c94 := hS1.2.1.1
  have s0 := hS1.2.2.2.1.1
  have e49 := hm1.2.2.2.2.1
  have h20 := hA.2.2.2.2.1
  unfold rrP at hp
  unfold fAdd at hQ
  cases hx : rdRule (sTx s) (sTn s) with
  | inl j =>
    rw [hx] at hp hQ
    have hp : gI h1 93 8 = (j : Int) := hp
    have hj := rdX_R hM.2.2.2.1.2.1 j hx
    have hfin : QQ (some (vI (-3))) h1 := by rw [← hQ]; exact ⟨rfl, hM1, hK.wk.mf⟩
    clear hQ
    refine z_run1 tsX8_add [] 20 ?_
    simp (maxSteps := 1000000) -implicitDefEqProofs +contextual (disch := omega) only [z_wp_t, z_wp_u, ↓pI_e, ↓pL_e, ↓pO_e, ↓pR_e, ↓p1_I, ↓p1_O, z_gl, z_st1, z_st2, z_nl_I, z_nl_O, z_nl_J, z_nl_L, if_true, if_false, ite_true, ite_false, true_and, and_true, List.mem_cons, List.not_mem_nil, or_false, false_or, or_self, List.length_cons, List.length_nil, InR_t, InL_t, z_ix_t, mI_s1, mI_s2, ↓brT, ↓brF, ↓brT', ↓brF', mL_sI, mR_sI, mK_sI, mS_sI, mI_sL, mL_s1, mL_s2, mR_sL, mK_sL, mS_sL, mI_sR, mL_sR, mR_s1, mR_s2, mK_sR, mS_sR, mA_s1, mA_s2, mL_sA, mR_sA, mK_sA, mS_sA, ix_n, ix_a, ix_m, ix_s, z_sw, z_stop, forall_const, true_implies, false_implies, imp_self, implies_true, not_true_eq_false, not_false_eq_true, ne_eq, eq_self, Option.some.injEq, reduceCtorEq, Nat.reduceAdd, Nat.reduceSub, Nat.reduceMul, Nat.reduceEqDiff, Nat.reduceLT, Nat.reduceLeDiff, Int.reduceAdd, Int.reduceMul, Int.reduceSub, Int.reduceNeg, Int.reduceToNat, Int.reduceLT, Int.reduceLE, Int.reduceEq, ↓reduceIte, List.reverse_cons, Option.toList, List.cons_append, List.nil_append, vI_inj, vL_inj, vO_inj, rI, rL, rO, rV, mI_sQ, mL_sQ, mK_sQ, mS_sQ, mQ_s1, mQ_s2, iL_and, iL_or, iL_xor, iL_shl, iL_ushr, iR_and, iR_or, iR_xor, iR_shl, iR_shr, iR_ushr, iR_cmp, yc0, tlX8_add, tkX8_add, o_aload, o_dup2, o_getI, o_getR, o_goto, o_iadd, o_iald, o_iast, o_ic, o_iceq, o_icge, o_icne, o_iinc, o_iload, o_imul, o_iret, o_istore, o_isub, o_putI, c1, hp]
    try simp +contextual (disch := omega) only [impF, impT, and_true, true_and, implies_true, not_false_eq_true, not_true_eq_false]
    exact hfin
  | inr d =>
    rw [hx] at hp hQ
    obtain ⟨hp, hru⟩ : gI h1 93 8 = -1 ∧ MRu (gI h1 97) (mkR d) := hp
    by_cases hfull : 20 ≤ aC (sW s)
    · have hQ' : mQ h (-4, s) = QQ := by rw [← hQ]; simp only [if_pos hfull]
      have e20 : aC (sW s) = 20 := by omega
      rw [e20] at e49
      rw [show ((20 : Nat) : Int) = 20 from rfl] at e49
      clear hQ
      refine z_run1 tsX8_add [] 20 ?_
      simp (maxSteps := 1000000) -implicitDefEqProofs +contextual (disch := omega) only [z_wp_t, z_wp_u, ↓pI_e, ↓pL_e, ↓pO_e, ↓pR_e, ↓p1_I, ↓p1_O, z_gl, z_st1, z_st2, z_nl_I, z_nl_O, z_nl_J, z_nl_L, if_true, if_false, ite_true, ite_false, true_and, and_true, List.mem_cons, List.not_mem_nil, or_false, false_or, or_self, List.length_cons, List.length_nil, InR_t, InL_t, z_ix_t, mI_s1, mI_s2, ↓brT, ↓brF, ↓brT', ↓brF', mL_sI, mR_sI, mK_sI, mS_sI, mI_sL, mL_s1, mL_s2, mR_sL, mK_sL, mS_sL, mI_sR, mL_sR, mR_s1, mR_s2, mK_sR, mS_sR, mA_s1, mA_s2, mL_sA, mR_sA, mK_sA, mS_sA, ix_n, ix_a, ix_m, ix_s, z_sw, z_stop, forall_const, true_implies, false_implies, imp_self, implies_true, not_true_eq_false, not_false_eq_true, ne_eq, eq_self, Option.some.injEq, reduceCtorEq, Nat.reduceAdd, Nat.reduceSub, Nat.reduceMul, Nat.reduceEqDiff, Nat.reduceLT, Nat.reduceLeDiff, Int.reduceAdd, Int.reduceMul, Int.reduceSub, Int.reduceNeg, Int.reduceToNat, Int.reduceLT, Int.reduceLE, Int.reduceEq, ↓reduceIte, List.reverse_cons, Option.toList, List.cons_append, List.nil_append, vI_inj, vL_inj, vO_inj, rI, rL, rO, rV, mI_sQ, mL_sQ, mK_sQ, mS_sQ, mQ_s1, mQ_s2, iL_and, iL_or, iL_xor, iL_shl, iL_ushr, iR_and, iR_or, iR_xor, iR_shl, iR_shr, iR_ushr, iR_cmp, yc0, tlX8_add, tkX8_add, o_aload, o_dup2, o_getI, o_getR, o_goto, o_iadd, o_iald, o_iast, o_ic, o_iceq, o_icge, o_icne, o_iinc, o_iload, o_imul, o_iret, o_istore, o_isub, o_putI, c1, hp, c94, s0, e49]
      try simp +contextual (disch := omega) only [impF, impT, and_true, true_and, implies_true, not_false_eq_true, not_true_eq_false]
      rw [← hQ']
      exact ⟨rfl, hM1, hK.wk.mf⟩
    · have hQ' : mQ h ((aC (sW s) : Int), addR (sW s) (mkR d), hPush (sHs s) (sW s), sTx s, 0) = QQ := by rw [← hQ]; simp only [if_neg hfull]
      have hRA := rdRule_ok hx
      have hkp := sm_keeps l G h1 (sW s) (sHs s) hS1 hm1 hA hH1 1 (by omega)
      clear hQ
      refine z_run1 tsX8_add [] 20 ?_
      simp (maxSteps := 1000000) -implicitDefEqProofs +contextual (disch := omega) only [z_wp_t, z_wp_u, ↓pI_e, ↓pL_e, ↓pO_e, ↓pR_e, ↓p1_I, ↓p1_O, z_gl, z_st1, z_st2, z_nl_I, z_nl_O, z_nl_J, z_nl_L, if_true, if_false, ite_true, ite_false, true_and, and_true, List.mem_cons, List.not_mem_nil, or_false, false_or, or_self, List.length_cons, List.length_nil, InR_t, InL_t, z_ix_t, mI_s1, mI_s2, ↓brT, ↓brF, ↓brT', ↓brF', mL_sI, mR_sI, mK_sI, mS_sI, mI_sL, mL_s1, mL_s2, mR_sL, mK_sL, mS_sL, mI_sR, mL_sR, mR_s1, mR_s2, mK_sR, mS_sR, mA_s1, mA_s2, mL_sA, mR_sA, mK_sA, mS_sA, ix_n, ix_a, ix_m, ix_s, z_sw, z_stop, forall_const, true_implies, false_implies, imp_self, implies_true, not_true_eq_false, not_false_eq_true, ne_eq, eq_self, Option.some.injEq, reduceCtorEq, Nat.reduceAdd, Nat.reduceSub, Nat.reduceMul, Nat.reduceEqDiff, Nat.reduceLT, Nat.reduceLeDiff, Int.reduceAdd, Int.reduceMul, Int.reduceSub, Int.reduceNeg, Int.reduceToNat, Int.reduceLT, Int.reduceLE, Int.reduceEq, ↓reduceIte, List.reverse_cons, Option.toList, List.cons_append, List.nil_append, vI_inj, vL_inj, vO_inj, rI, rL, rO, rV, mI_sQ, mL_sQ, mK_sQ, mS_sQ, mQ_s1, mQ_s2, iL_and, iL_or, iL_xor, iL_shl, iL_ushr, iR_and, iR_or, iR_xor, iR_shl, iR_shr, iR_ushr, iR_cmp, yc0, tlX8_add, tkX8_add, o_aload, o_dup2, o_getI, o_getR, o_goto, o_iadd, o_iald, o_iast, o_ic, o_iceq, o_icge, o_icne, o_iinc, o_iload, o_imul, o_iret, o_istore, o_isub, o_putI, c1, hp, c94, s0, e49]
      try simp +contextual (disch := omega) only [impF, impT, and_true, true_and, implies_true, not_false_eq_true, not_true_eq_false]
      refine x_callV (by decide +kernel) cv_X8_75 (hkp) c1 (by omega) rfl (by omega) (by omega) rfl (Nat.le_of_ble_eq_true rfl) ?_
      rintro r h2 ⟨rfl, f2, hR2, hk2, hH2⟩
      have hS2 := hS1.of f2.K hR2
      have d0 := hS2.1
      have d94 := hS2.2.1.1
      have d97 := hS2.2.1.2.2.2.1
      have t0 := hS2.2.2.2.1.1
      have t5 := hS2.2.2.2.1.2.2.2.1
      have em2 : gI h2 94 = gI h1 94 := f2.I (by omega)
      have em7 : gI h2 97 = gI h1 97 := f2.I (by omega)
      have hm2 : MA (gI h2 94) (sW s) := by rw [em2]; exact hm1
      have e492 := hm2.2.2.2.2.1
      have hlo : ∀ (d k : Nat) (g : Nat → Int), k + d = 68 → (∀ j, g j = if 50 + 68 * aC (sW s) ≤ j ∧ j < 50 + 68 * aC (sW s) + k then gI h2 97 (j - (50 + 68 * aC (sW s))) else gI h2 94 j) → z_X l G mtX8_add lv 0 0 (QQ) 0 0 (sA h2 94 g) 37 [vR 93, vI k] [] := by
        intro dd
        induction dd with
        | zero =>
          intro k g hk hg
          obtain rfl : k = 68 := by omega
          have hg49 := hg 49
          rw [if_neg (by omega), e492] at hg49
          have hm3 : MA (up g 49 ((aC (sW s) + 1 : Nat) : Int)) (addR (sW s) (mkR d)) := hm2.add (by omega) hru (fun j h1 h2 => by rw [up_n _ _ h2, hg j, if_neg (by omega)]) (up_s _ _ _) (fun k hk => by
            rw [up_n _ _ (by omega), hg _, if_pos (by omega), em7]
            congr 1
            omega) hA
          have hfin : QQ (some (vI (aC (sW s) : Int))) (sI (sA h2 94 (up g 49 ((aC (sW s) + 1 : Nat) : Int))) 93 4 0) := by
            rw [← hQ']
            have f3 : Fr (fun c => c = 93 ∨ c = 94 ∨ c = 95) h1 (sA h2 94 (up g 49 ((aC (sW s) + 1 : Nat) : Int))) := f2.tr' (Fr.sA (fun c => c = 94) _ _ _ rfl) (fun c q => by omega) (fun c q => by omega)
            have hc := hM1.cell f3 (show gR (sA h2 94 (up g 49 ((aC (sW s) + 1 : Nat) : Int))) = gR h1 from hR2) (A' := addR (sW s) (mkR d)) (by
              rw [show gI (sA h2 94 (up g 49 ((aC (sW s) + 1 : Nat) : Int))) 94 = up g 49 ((aC (sW s) + 1 : Nat) : Int) from funext (fun j => mA_s1 _ _ _ _)]
              exact hm3) (addR_ok hA hRA (by omega)) (hs' := hPush (sHs s) (sW s)) (hH2.o (by rw [mA_s2 _ _ _ (by omega)]) (mI_sAn _ _ (by omega))) (by rw [mA_s2 _ _ _ (by omega)]; exact hk2 4 (by omega))
            have hcl := hc.1.clr
            exact ⟨rfl, hcl.1, (hK.wk.mf.tr hc.2).tr hcl.2⟩
          clear hQ' hg hm3 hru
          refine z_run1 tsX8_add [] 40 ?_
          simp (maxSteps := 1000000) -implicitDefEqProofs +contextual (disch := omega) only [z_wp_t, z_wp_u, ↓pI_e, ↓pL_e, ↓pO_e, ↓pR_e, ↓p1_I, ↓p1_O, z_gl, z_st1, z_st2, z_nl_I, z_nl_O, z_nl_J, z_nl_L, if_true, if_false, ite_true, ite_false, true_and, and_true, List.mem_cons, List.not_mem_nil, or_false, false_or, or_self, List.length_cons, List.length_nil, InR_t, InL_t, z_ix_t, mI_s1, mI_s2, ↓brT, ↓brF, ↓brT', ↓brF', mL_sI, mR_sI, mK_sI, mS_sI, mI_sL, mL_s1, mL_s2, mR_sL, mK_sL, mS_sL, mI_sR, mL_sR, mR_s1, mR_s2, mK_sR, mS_sR, mA_s1, mA_s2, mL_sA, mR_sA, mK_sA, mS_sA, ix_n, ix_a, ix_m, ix_s, z_sw, z_stop, forall_const, true_implies, false_implies, imp_self, implies_true, not_true_eq_false, not_false_eq_true, ne_eq, eq_self, Option.some.injEq, reduceCtorEq, Nat.reduceAdd, Nat.reduceSub, Nat.reduceMul, Nat.reduceEqDiff, Nat.reduceLT, Nat.reduceLeDiff, Int.reduceAdd, Int.reduceMul, Int.reduceSub, Int.reduceNeg, Int.reduceToNat, Int.reduceLT, Int.reduceLE, Int.reduceEq, ↓reduceIte, List.reverse_cons, Option.toList, List.cons_append, List.nil_append, vI_inj, vL_inj, vO_inj, rI, rL, rO, rV, mI_sQ, mL_sQ, mK_sQ, mS_sQ, mQ_s1, mQ_s2, iL_and, iL_or, iL_xor, iL_shl, iL_ushr, iR_and, iR_or, iR_xor, iR_shl, iR_shr, iR_ushr, iR_cmp, yc0, tlX8_add, tkX8_add, o_aload, o_dup2, o_getI, o_getR, o_goto, o_iadd, o_iald, o_iast, o_ic, o_iceq, o_icge, o_icne, o_iinc, o_iload, o_imul, o_iret, o_istore, o_isub, o_putI, d0, d94, t0, hg49, sI_sA, up_s]
          try simp +contextual (disch := omega) only [impF, impT, and_true, true_and, implies_true, not_false_eq_true, not_true_eq_false]
          have e1 : (aC (sW s) : Int) + 1 - 1 = (aC (sW s) : Int) := by omega
          simp only [e1]
          exact hfin
        | succ dd ih =>
          intro k g hk hg
          have hg49 := hg 49
          rw [if_neg (by omega), e492] at hg49
          have hnx := ih (k + 1) (up g (50 + 68 * aC (sW s) + k) (gI h2 97 k)) (by omega) (fun j => by
            by_cases e : j = 50 + 68 * aC (sW s) + k
            · rw [e, up_s, if_pos (by omega)]
              congr 1
              omega
            · rw [up_n _ _ e, hg j]
              by_cases w : 50 + 68 * aC (sW s) ≤ j ∧ j < 50 + 68 * aC (sW s) + k
              · rw [if_pos w, if_pos (by omega)]
              · rw [if_neg w, if_neg (by omega)])
          clear ih hg hQ' hru hH1 hH2 hm1 hm2
          refine z_run1 tsX8_add [37] 40 ?_
          simp (maxSteps := 1000000) -implicitDefEqProofs +contextual (disch := omega) only [z_wp_t, z_wp_u, ↓pI_e, ↓pL_e, ↓pO_e, ↓pR_e, ↓p1_I, ↓p1_O, z_gl, z_st1, z_st2, z_nl_I, z_nl_O, z_nl_J, z_nl_L, if_true, if_false, ite_true, ite_false, true_and, and_true, List.mem_cons, List.not_mem_nil, or_false, false_or, or_self, List.length_cons, List.length_nil, InR_t, InL_t, z_ix_t, mI_s1, mI_s2, ↓brT, ↓brF, ↓brT', ↓brF', mL_sI, mR_sI, mK_sI, mS_sI, mI_sL, mL_s1, mL_s2, mR_sL, mK_sL, mS_sL, mI_sR, mL_sR, mR_s1, mR_s2, mK_sR, mS_sR, mA_s1, mA_s2, mL_sA, mR_sA, mK_sA, mS_sA, ix_n, ix_a, ix_m, ix_s, z_sw, z_stop, forall_const, true_implies, false_implies, imp_self, implies_true, not_true_eq_false, not_false_eq_true, ne_eq, eq_self, Option.some.injEq, reduceCtorEq, Nat.reduceAdd, Nat.reduceSub, Nat.reduceMul, Nat.reduceEqDiff, Nat.reduceLT, Nat.reduceLeDiff, Int.reduceAdd, Int.reduceMul, Int.reduceSub, Int.reduceNeg, Int.reduceToNat, Int.reduceLT, Int.reduceLE, Int.reduceEq, ↓reduceIte, List.reverse_cons, Option.toList, List.cons_append, List.nil_append, vI_inj, vL_inj, vO_inj, rI, rL, rO, rV, mI_sQ, mL_sQ, mK_sQ, mS_sQ, mQ_s1, mQ_s2, iL_and, iL_or, iL_xor, iL_shl, iL_ushr, iR_and, iR_or, iR_xor, iR_shl, iR_shr, iR_ushr, iR_cmp, yc0, tlX8_add, tkX8_add, o_aload, o_dup2, o_getI, o_getR, o_goto, o_iadd, o_iald, o_iast, o_ic, o_iceq, o_icge, o_icne, o_iinc, o_iload, o_imul, o_iret, o_istore, o_isub, o_putI, d0, d94, d97, t0, t5, hg49, sI_sA]
          try simp +contextual (disch := omega) only [impF, impT, and_true, true_and, implies_true, not_false_eq_true, not_true_eq_false]
          exact hnx
      have h0 := hlo 68 0 (gI h2 94) (by omega) (fun j => by rw [if_neg (by omega)])
      rw [sA_self] at h0
      clear hlo hQ' hru
      refine z_run1 tsX8_add [37] 20 ?_
      simp (maxSteps := 1000000) -implicitDefEqProofs +contextual (disch := omega) only [z_wp_t, z_wp_u, ↓pI_e, ↓pL_e, ↓pO_e, ↓pR_e, ↓p1_I, ↓p1_O, z_gl, z_st1, z_st2, z_nl_I, z_nl_O, z_nl_J, z_nl_L, if_true, if_false, ite_true, ite_false, true_and, and_true, List.mem_cons, List.not_mem_nil, or_false, false_or, or_self, List.length_cons, List.length_nil, InR_t, InL_t, z_ix_t, mI_s1, mI_s2, ↓brT, ↓brF, ↓brT', ↓brF', mL_sI, mR_sI, mK_sI, mS_sI, mI_sL, mL_s1, mL_s2, mR_sL, mK_sL, mS_sL, mI_sR, mL_sR, mR_s1, mR_s2, mK_sR, mS_sR, mA_s1, mA_s2, mL_sA, mR_sA, mK_sA, mS_sA, ix_n, ix_a, ix_m, ix_s, z_sw, z_stop, forall_const, true_implies, false_implies, imp_self, implies_true, not_true_eq_false, not_false_eq_true, ne_eq, eq_self, Option.some.injEq, reduceCtorEq, Nat.reduceAdd, Nat.reduceSub, Nat.reduceMul, Nat.reduceEqDiff, Nat.reduceLT, Nat.reduceLeDiff, Int.reduceAdd, Int.reduceMul, Int.reduceSub, Int.reduceNeg, Int.reduceToNat, Int.reduceLT, Int.reduceLE, Int.reduceEq, ↓reduceIte, List.reverse_cons, Option.toList, List.cons_append, List.nil_append, vI_inj, vL_inj, vO_inj, rI, rL, rO, rV, mI_sQ, mL_sQ, mK_sQ, mS_sQ, mQ_s1, mQ_s2, iL_and, iL_or, iL_xor, iL_shl, iL_ushr, iR_and, iR_or, iR_xor, iR_shl, iR_shr, iR_ushr, iR_cmp, yc0, tlX8_add, tkX8_add, o_aload, o_dup2, o_getI, o_getR, o_goto, o_iadd, o_iald, o_iast, o_ic, o_iceq, o_icge, o_icne, o_iinc, o_iload, o_imul, o_iret, o_istore, o_isub, o_putI]
      try simp +contextual (disch := omega) only [impF, impT, and_true, true_and, implies_true, not_false_eq_true, not_true_eq_false]
      exact h0
