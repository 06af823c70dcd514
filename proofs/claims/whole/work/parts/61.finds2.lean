/-! the reference: changes, present, notes, finds -/
set_option maxHeartbeats 4000000 in
theorem sm_changes (l : Launch) (G : zG) (h : zH) (k : Nat) (s : Nat → Nat) (A : zA) (hS : ShM h) (hm : MA (gI h 94) A) (hA : AOK A) (hk : k ≤ 8) (hE : EnO h 104 k s) (hs : ∀ q, q < k → s q ≤ aN A q) (lv : Nat) (hlv : 2 ≤ lv) : z_Sp l G mtX8_changes lv 0 0 [vR 93, vI k] (h) (rI ((cnt (chB A s) k : Nat) : Int) h) := by
  have k0 := hS.1
  have k94 := hS.2.1.1
  have r0 := hS.2.2.2.1.1
  have k104 := hS.2.2.1.2.2.1
  have r14 := hS.2.2.2.2.2.2.1
  refine x_enter [vR 93, vI k, vJ, vJ] (by decide +kernel) (by omega) rfl (Nat.le_of_ble_eq_true rfl) ?_
  generalize hQ : rI ((cnt (chB A s) k : Nat) : Int) h = QQ
  have hlo : ∀ (d i : Nat), i + d = k → z_X l G mtX8_changes lv 0 0 (QQ) 0 0 (h) 4 [vR 93, vI k, vI ((cnt (chB A s) i : Nat) : Int), vI i] [] := by
    intro d
    induction d with
    | zero =>
      intro i hi
      obtain rfl : i = k := by omega
      refine z_run1 tsX8_changes [] 20 ?_
      simp (maxSteps := 1000000) -implicitDefEqProofs +contextual (disch := omega) only [z_wp_t, z_wp_u, ↓pI_e, ↓pL_e, ↓pO_e, ↓pR_e, ↓p1_I, ↓p1_O, z_gl, z_st1, z_st2, z_nl_I, z_nl_O, z_nl_J, z_nl_L, if_true, if_false, ite_true, ite_false, true_and, and_true, List.mem_cons, List.not_mem_nil, or_false, false_or, or_self, List.length_cons, List.length_nil, InR_t, InL_t, z_ix_t, mI_s1, mI_s2, ↓brT, ↓brF, ↓brT', ↓brF', mL_sI, mR_sI, mK_sI, mS_sI, mI_sL, mL_s1, mL_s2, mR_sL, mK_sL, mS_sL, mI_sR, mL_sR, mR_s1, mR_s2, mK_sR, mS_sR, mA_s1, mA_s2, mL_sA, mR_sA, mK_sA, mS_sA, ix_n, ix_a, ix_m, ix_s, z_sw, z_stop, forall_const, true_implies, false_implies, imp_self, implies_true, not_true_eq_false, not_false_eq_true, ne_eq, eq_self, Option.some.injEq, reduceCtorEq, Nat.reduceAdd, Nat.reduceSub, Nat.reduceMul, Nat.reduceEqDiff, Nat.reduceLT, Nat.reduceLeDiff, Int.reduceAdd, Int.reduceMul, Int.reduceSub, Int.reduceNeg, Int.reduceToNat, Int.reduceLT, Int.reduceLE, Int.reduceEq, ↓reduceIte, List.reverse_cons, Option.toList, List.cons_append, List.nil_append, vI_inj, vL_inj, vO_inj, rI, rL, rO, rV, mI_sQ, mL_sQ, mK_sQ, mS_sQ, mQ_s1, mQ_s2, iL_and, iL_or, iL_xor, iL_shl, iL_ushr, iR_and, iR_or, iR_xor, iR_shl, iR_shr, iR_ushr, iR_cmp, yc0, tlX8_changes, tkX8_changes, o_aload, o_getR, o_goto, o_iadd, o_iald, o_ic, o_icge, o_icne, o_iinc, o_iload, o_iret, o_istore]
      try simp +contextual (disch := omega) only [impF, impT, and_true, true_and, implies_true, not_false_eq_true, not_true_eq_false]
      rw [← hQ]
      exact ⟨rfl, rfl⟩
    | succ d ih =>
      intro i hi
      have hnx := ih (i + 1) (by omega)
      simp only [cnt] at hnx
      have e104 := hE i (by omega)
      have e41 := hm.2.2.2.1 i (by omega)
      have hsi := hs i (by omega)
      have hvr := ver_R hA (show i < 8 by omega) hsi
      have hlk := hA.2.2.2.1 i (by omega)
      refine z_run1 tsX8_changes [] 20 ?_
      simp (maxSteps := 1000000) -implicitDefEqProofs +contextual (disch := omega) only [z_wp_t, z_wp_u, ↓pI_e, ↓pL_e, ↓pO_e, ↓pR_e, ↓p1_I, ↓p1_O, z_gl, z_st1, z_st2, z_nl_I, z_nl_O, z_nl_J, z_nl_L, if_true, if_false, ite_true, ite_false, true_and, and_true, List.mem_cons, List.not_mem_nil, or_false, false_or, or_self, List.length_cons, List.length_nil, InR_t, InL_t, z_ix_t, mI_s1, mI_s2, ↓brT, ↓brF, ↓brT', ↓brF', mL_sI, mR_sI, mK_sI, mS_sI, mI_sL, mL_s1, mL_s2, mR_sL, mK_sL, mS_sL, mI_sR, mL_sR, mR_s1, mR_s2, mK_sR, mS_sR, mA_s1, mA_s2, mL_sA, mR_sA, mK_sA, mS_sA, ix_n, ix_a, ix_m, ix_s, z_sw, z_stop, forall_const, true_implies, false_implies, imp_self, implies_true, not_true_eq_false, not_false_eq_true, ne_eq, eq_self, Option.some.injEq, reduceCtorEq, Nat.reduceAdd, Nat.reduceSub, Nat.reduceMul, Nat.reduceEqDiff, Nat.reduceLT, Nat.reduceLeDiff, Int.reduceAdd, Int.reduceMul, Int.reduceSub, Int.reduceNeg, Int.reduceToNat, Int.reduceLT, Int.reduceLE, Int.reduceEq, ↓reduceIte, List.reverse_cons, Option.toList, List.cons_append, List.nil_append, vI_inj, vL_inj, vO_inj, rI, rL, rO, rV, mI_sQ, mL_sQ, mK_sQ, mS_sQ, mQ_s1, mQ_s2, iL_and, iL_or, iL_xor, iL_shl, iL_ushr, iR_and, iR_or, iR_xor, iR_shl, iR_shr, iR_ushr, iR_cmp, yc0, tlX8_changes, tkX8_changes, o_aload, o_getR, o_goto, o_iadd, o_iald, o_ic, o_icge, o_icne, o_iinc, o_iload, o_iret, o_istore, k0, k104, r14, e104]
      try simp +contextual (disch := omega) only [impF, impT, and_true, true_and, implies_true, not_false_eq_true, not_true_eq_false]
      refine x_callV (by decide +kernel) cv_X8_159 (sm_versionOf l G h i (s i) A hS hm hA (by omega) hsi 1 (by omega)) k0 (by omega) rfl (by omega) (by omega) rfl (Nat.le_of_ble_eq_true rfl) ?_
      rintro r' h' ⟨rfl, hE'⟩
      subst h'
      by_cases he : verA A i (s i) = aL A i
      · have hc : chB A s i = false := by unfold chB; simp [he]
        simp only [hc, Bool.false_eq_true, if_false] at hnx
        refine z_run1 tsX8_changes [4] 20 ?_
        simp (maxSteps := 1000000) -implicitDefEqProofs +contextual (disch := omega) only [z_wp_t, z_wp_u, ↓pI_e, ↓pL_e, ↓pO_e, ↓pR_e, ↓p1_I, ↓p1_O, z_gl, z_st1, z_st2, z_nl_I, z_nl_O, z_nl_J, z_nl_L, if_true, if_false, ite_true, ite_false, true_and, and_true, List.mem_cons, List.not_mem_nil, or_false, false_or, or_self, List.length_cons, List.length_nil, InR_t, InL_t, z_ix_t, mI_s1, mI_s2, ↓brT, ↓brF, ↓brT', ↓brF', mL_sI, mR_sI, mK_sI, mS_sI, mI_sL, mL_s1, mL_s2, mR_sL, mK_sL, mS_sL, mI_sR, mL_sR, mR_s1, mR_s2, mK_sR, mS_sR, mA_s1, mA_s2, mL_sA, mR_sA, mK_sA, mS_sA, ix_n, ix_a, ix_m, ix_s, z_sw, z_stop, forall_const, true_implies, false_implies, imp_self, implies_true, not_true_eq_false, not_false_eq_true, ne_eq, eq_self, Option.some.injEq, reduceCtorEq, Nat.reduceAdd, Nat.reduceSub, Nat.reduceMul, Nat.reduceEqDiff, Nat.reduceLT, Nat.reduceLeDiff, Int.reduceAdd, Int.reduceMul, Int.reduceSub, Int.reduceNeg, Int.reduceToNat, Int.reduceLT, Int.reduceLE, Int.reduceEq, ↓reduceIte, List.reverse_cons, Option.toList, List.cons_append, List.nil_append, vI_inj, vL_inj, vO_inj, rI, rL, rO, rV, mI_sQ, mL_sQ, mK_sQ, mS_sQ, mQ_s1, mQ_s2, iL_and, iL_or, iL_xor, iL_shl, iL_ushr, iR_and, iR_or, iR_xor, iR_shl, iR_shr, iR_ushr, iR_cmp, yc0, tlX8_changes, tkX8_changes, o_aload, o_getR, o_goto, o_iadd, o_iald, o_ic, o_icge, o_icne, o_iinc, o_iload, o_iret, o_istore, k0, k94, r0, e41, he]
        try simp +contextual (disch := omega) only [impF, impT, and_true, true_and, implies_true, not_false_eq_true, not_true_eq_false]
        exact hnx
      · have hc : chB A s i = true := by unfold chB; simp [he]
        simp only [hc, if_true] at hnx
        refine z_run1 tsX8_changes [4] 20 ?_
        simp (maxSteps := 1000000) -implicitDefEqProofs +contextual (disch := omega) only [z_wp_t, z_wp_u, ↓pI_e, ↓pL_e, ↓pO_e, ↓pR_e, ↓p1_I, ↓p1_O, z_gl, z_st1, z_st2, z_nl_I, z_nl_O, z_nl_J, z_nl_L, if_true, if_false, ite_true, ite_false, true_and, and_true, List.mem_cons, List.not_mem_nil, or_false, false_or, or_self, List.length_cons, List.length_nil, InR_t, InL_t, z_ix_t, mI_s1, mI_s2, ↓brT, ↓brF, ↓brT', ↓brF', mL_sI, mR_sI, mK_sI, mS_sI, mI_sL, mL_s1, mL_s2, mR_sL, mK_sL, mS_sL, mI_sR, mL_sR, mR_s1, mR_s2, mK_sR, mS_sR, mA_s1, mA_s2, mL_sA, mR_sA, mK_sA, mS_sA, ix_n, ix_a, ix_m, ix_s, z_sw, z_stop, forall_const, true_implies, false_implies, imp_self, implies_true, not_true_eq_false, not_false_eq_true, ne_eq, eq_self, Option.some.injEq, reduceCtorEq, Nat.reduceAdd, Nat.reduceSub, Nat.reduceMul, Nat.reduceEqDiff, Nat.reduceLT, Nat.reduceLeDiff, Int.reduceAdd, Int.reduceMul, Int.reduceSub, Int.reduceNeg, Int.reduceToNat, Int.reduceLT, Int.reduceLE, Int.reduceEq, ↓reduceIte, List.reverse_cons, Option.toList, List.cons_append, List.nil_append, vI_inj, vL_inj, vO_inj, rI, rL, rO, rV, mI_sQ, mL_sQ, mK_sQ, mS_sQ, mQ_s1, mQ_s2, iL_and, iL_or, iL_xor, iL_shl, iL_ushr, iR_and, iR_or, iR_xor, iR_shl, iR_shr, iR_ushr, iR_cmp, yc0, tlX8_changes, tkX8_changes, o_aload, o_getR, o_goto, o_iadd, o_iald, o_ic, o_icge, o_icne, o_iinc, o_iload, o_iret, o_istore, k0, k94, r0, e41, he]
        try simp +contextual (disch := omega) only [impF, impT, and_true, true_and, implies_true, not_false_eq_true, not_true_eq_false]
        exact hnx
  have h0 := hlo k 0 (by omega)
  refine z_run1 tsX8_changes [4] 20 ?_
  simp (maxSteps := 1000000) -implicitDefEqProofs +contextual (disch := omega) only [z_wp_t, z_wp_u, ↓pI_e, ↓pL_e, ↓pO_e, ↓pR_e, ↓p1_I, ↓p1_O, z_gl, z_st1, z_st2, z_nl_I, z_nl_O, z_nl_J, z_nl_L, if_true, if_false, ite_true, ite_false, true_and, and_true, List.mem_cons, List.not_mem_nil, or_false, false_or, or_self, List.length_cons, List.length_nil, InR_t, InL_t, z_ix_t, mI_s1, mI_s2, ↓brT, ↓brF, ↓brT', ↓brF', mL_sI, mR_sI, mK_sI, mS_sI, mI_sL, mL_s1, mL_s2, mR_sL, mK_sL, mS_sL, mI_sR, mL_sR, mR_s1, mR_s2, mK_sR, mS_sR, mA_s1, mA_s2, mL_sA, mR_sA, mK_sA, mS_sA, ix_n, ix_a, ix_m, ix_s, z_sw, z_stop, forall_const, true_implies, false_implies, imp_self, implies_true, not_true_eq_false, not_false_eq_true, ne_eq, eq_self, Option.some.injEq, reduceCtorEq, Nat.reduceAdd, Nat.reduceSub, Nat.reduceMul, Nat.reduceEqDiff, Nat.reduceLT, Nat.reduceLeDiff, Int.reduceAdd, Int.reduceMul, Int.reduceSub, Int.reduceNeg, Int.reduceToNat, Int.reduceLT, Int.reduceLE, Int.reduceEq, ↓reduceIte, List.reverse_cons, Option.toList, List.cons_append, List.nil_append, vI_inj, vL_inj, vO_inj, rI, rL, rO, rV, mI_sQ, mL_sQ, mK_sQ, mS_sQ, mQ_s1, mQ_s2, iL_and, iL_or, iL_xor, iL_shl, iL_ushr, iR_and, iR_or, iR_xor, iR_shl, iR_shr, iR_ushr, iR_cmp, yc0, tlX8_changes, tkX8_changes, o_aload, o_getR, o_goto, o_iadd, o_iald, o_ic, o_icge, o_icne, o_iinc, o_iload, o_iret, o_istore]
  try simp +contextual (disch := omega) only [impF, impT, and_true, true_and, implies_true, not_false_eq_true, not_true_eq_false]
  exact h0
set_option maxHeartbeats 4000000 in
theorem sm_present (l : Launch) (G : zG) (h : zH) (k : Nat) (s : Nat → Nat) (hS : ShM h) (hk : k ≤ 8) (hE : EnO h 104 k s) (hs : ∀ q, q < k → s q ≤ 4) (lv : Nat) (hlv : 1 ≤ lv) : z_Sp l G mtX8_present lv 0 0 [vR 93, vI k] (h) (rI ((cnt (prB s) k : Nat) : Int) h) := by
  have k0 := hS.1
  have k104 := hS.2.2.1.2.2.1
  have r14 := hS.2.2.2.2.2.2.1
  refine x_enter [vR 93, vI k, vJ, vJ] (by decide +kernel) (by omega) rfl (Nat.le_of_ble_eq_true rfl) ?_
  generalize hQ : rI ((cnt (prB s) k : Nat) : Int) h = QQ
  have hlo : ∀ (d i : Nat), i + d = k → z_X l G mtX8_present lv 0 0 (QQ) 0 0 (h) 4 [vR 93, vI k, vI ((cnt (prB s) i : Nat) : Int), vI i] [] := by
    intro d
    induction d with
    | zero =>
      intro i hi
      obtain rfl : i = k := by omega
      refine z_run1 tsX8_present [] 20 ?_
      simp (maxSteps := 1000000) -implicitDefEqProofs +contextual (disch := omega) only [z_wp_t, z_wp_u, ↓pI_e, ↓pL_e, ↓pO_e, ↓pR_e, ↓p1_I, ↓p1_O, z_gl, z_st1, z_st2, z_nl_I, z_nl_O, z_nl_J, z_nl_L, if_true, if_false, ite_true, ite_false, true_and, and_true, List.mem_cons, List.not_mem_nil, or_false, false_or, or_self, List.length_cons, List.length_nil, InR_t, InL_t, z_ix_t, mI_s1, mI_s2, ↓brT, ↓brF, ↓brT', ↓brF', mL_sI, mR_sI, mK_sI, mS_sI, mI_sL, mL_s1, mL_s2, mR_sL, mK_sL, mS_sL, mI_sR, mL_sR, mR_s1, mR_s2, mK_sR, mS_sR, mA_s1, mA_s2, mL_sA, mR_sA, mK_sA, mS_sA, ix_n, ix_a, ix_m, ix_s, z_sw, z_stop, forall_const, true_implies, false_implies, imp_self, implies_true, not_true_eq_false, not_false_eq_true, ne_eq, eq_self, Option.some.injEq, reduceCtorEq, Nat.reduceAdd, Nat.reduceSub, Nat.reduceMul, Nat.reduceEqDiff, Nat.reduceLT, Nat.reduceLeDiff, Int.reduceAdd, Int.reduceMul, Int.reduceSub, Int.reduceNeg, Int.reduceToNat, Int.reduceLT, Int.reduceLE, Int.reduceEq, ↓reduceIte, List.reverse_cons, Option.toList, List.cons_append, List.nil_append, vI_inj, vL_inj, vO_inj, rI, rL, rO, rV, mI_sQ, mL_sQ, mK_sQ, mS_sQ, mQ_s1, mQ_s2, iL_and, iL_or, iL_xor, iL_shl, iL_ushr, iR_and, iR_or, iR_xor, iR_shl, iR_shr, iR_ushr, iR_cmp, yc0, tlX8_present, o_aload, o_getR, o_goto, o_iadd, o_iald, o_ic, o_icge, o_icne, o_iinc, o_iload, o_iret, o_istore]
      try simp +contextual (disch := omega) only [impF, impT, and_true, true_and, implies_true, not_false_eq_true, not_true_eq_false]
      rw [← hQ]
      exact ⟨rfl, rfl⟩
    | succ d ih =>
      intro i hi
      have hnx := ih (i + 1) (by omega)
      simp only [cnt] at hnx
      have e104 := hE i (by omega)
      have ho4 := opt_4 (hs i (by omega))
      have hol := opt_lt (hs i (by omega))
      by_cases he : s i = 0
      · have hc : prB s i = false := by unfold prB; simp [he]
        rw [ho4.mpr he] at e104
        have e104 : gI h 104 i = 4 := e104
        simp only [hc, Bool.false_eq_true, if_false] at hnx
        refine z_run1 tsX8_present [4] 20 ?_
        simp (maxSteps := 1000000) -implicitDefEqProofs +contextual (disch := omega) only [z_wp_t, z_wp_u, ↓pI_e, ↓pL_e, ↓pO_e, ↓pR_e, ↓p1_I, ↓p1_O, z_gl, z_st1, z_st2, z_nl_I, z_nl_O, z_nl_J, z_nl_L, if_true, if_false, ite_true, ite_false, true_and, and_true, List.mem_cons, List.not_mem_nil, or_false, false_or, or_self, List.length_cons, List.length_nil, InR_t, InL_t, z_ix_t, mI_s1, mI_s2, ↓brT, ↓brF, ↓brT', ↓brF', mL_sI, mR_sI, mK_sI, mS_sI, mI_sL, mL_s1, mL_s2, mR_sL, mK_sL, mS_sL, mI_sR, mL_sR, mR_s1, mR_s2, mK_sR, mS_sR, mA_s1, mA_s2, mL_sA, mR_sA, mK_sA, mS_sA, ix_n, ix_a, ix_m, ix_s, z_sw, z_stop, forall_const, true_implies, false_implies, imp_self, implies_true, not_true_eq_false, not_false_eq_true, ne_eq, eq_self, Option.some.injEq, reduceCtorEq, Nat.reduceAdd, Nat.reduceSub, Nat.reduceMul, Nat.reduceEqDiff, Nat.reduceLT, Nat.reduceLeDiff, Int.reduceAdd, Int.reduceMul, Int.reduceSub, Int.reduceNeg, Int.reduceToNat, Int.reduceLT, Int.reduceLE, Int.reduceEq, ↓reduceIte, List.reverse_cons, Option.toList, List.cons_append, List.nil_append, vI_inj, vL_inj, vO_inj, rI, rL, rO, rV, mI_sQ, mL_sQ, mK_sQ, mS_sQ, mQ_s1, mQ_s2, iL_and, iL_or, iL_xor, iL_shl, iL_ushr, iR_and, iR_or, iR_xor, iR_shl, iR_shr, iR_ushr, iR_cmp, yc0, tlX8_present, o_aload, o_getR, o_goto, o_iadd, o_iald, o_ic, o_icge, o_icne, o_iinc, o_iload, o_iret, o_istore, k0, k104, r14, e104]
        try simp +contextual (disch := omega) only [impF, impT, and_true, true_and, implies_true, not_false_eq_true, not_true_eq_false]
        exact hnx
      · have hc : prB s i = true := by unfold prB; simp [he]
        have hne : ¬ opt (s i) = 4 := fun q => he (ho4.mp q)
        simp only [hc, if_true] at hnx
        refine z_run1 tsX8_present [4] 20 ?_
        simp (maxSteps := 1000000) -implicitDefEqProofs +contextual (disch := omega) only [z_wp_t, z_wp_u, ↓pI_e, ↓pL_e, ↓pO_e, ↓pR_e, ↓p1_I, ↓p1_O, z_gl, z_st1, z_st2, z_nl_I, z_nl_O, z_nl_J, z_nl_L, if_true, if_false, ite_true, ite_false, true_and, and_true, List.mem_cons, List.not_mem_nil, or_false, false_or, or_self, List.length_cons, List.length_nil, InR_t, InL_t, z_ix_t, mI_s1, mI_s2, ↓brT, ↓brF, ↓brT', ↓brF', mL_sI, mR_sI, mK_sI, mS_sI, mI_sL, mL_s1, mL_s2, mR_sL, mK_sL, mS_sL, mI_sR, mL_sR, mR_s1, mR_s2, mK_sR, mS_sR, mA_s1, mA_s2, mL_sA, mR_sA, mK_sA, mS_sA, ix_n, ix_a, ix_m, ix_s, z_sw, z_stop, forall_const, true_implies, false_implies, imp_self, implies_true, not_true_eq_false, not_false_eq_true, ne_eq, eq_self, Option.some.injEq, reduceCtorEq, Nat.reduceAdd, Nat.reduceSub, Nat.reduceMul, Nat.reduceEqDiff, Nat.reduceLT, Nat.reduceLeDiff, Int.reduceAdd, Int.reduceMul, Int.reduceSub, Int.reduceNeg, Int.reduceToNat, Int.reduceLT, Int.reduceLE, Int.reduceEq, ↓reduceIte, List.reverse_cons, Option.toList, List.cons_append, List.nil_append, vI_inj, vL_inj, vO_inj, rI, rL, rO, rV, mI_sQ, mL_sQ, mK_sQ, mS_sQ, mQ_s1, mQ_s2, iL_and, iL_or, iL_xor, iL_shl, iL_ushr, iR_and, iR_or, iR_xor, iR_shl, iR_shr, iR_ushr, iR_cmp, yc0, tlX8_present, o_aload, o_getR, o_goto, o_iadd, o_iald, o_ic, o_icge, o_icne, o_iinc, o_iload, o_iret, o_istore, k0, k104, r14, e104]
        try simp +contextual (disch := omega) only [impF, impT, and_true, true_and, implies_true, not_false_eq_true, not_true_eq_false]
        exact hnx
  have h0 := hlo k 0 (by omega)
  refine z_run1 tsX8_present [4] 20 ?_
  simp (maxSteps := 1000000) -implicitDefEqProofs +contextual (disch := omega) only [z_wp_t, z_wp_u, ↓pI_e, ↓pL_e, ↓pO_e, ↓pR_e, ↓p1_I, ↓p1_O, z_gl, z_st1, z_st2, z_nl_I, z_nl_O, z_nl_J, z_nl_L, if_true, if_false, ite_true, ite_false, true_and, and_true, List.mem_cons, List.not_mem_nil, or_false, false_or, or_self, List.length_cons, List.length_nil, InR_t, InL_t, z_ix_t, mI_s1, mI_s2, ↓brT, ↓brF, ↓brT', ↓brF', mL_sI, mR_sI, mK_sI, mS_sI, mI_sL, mL_s1, mL_s2, mR_sL, mK_sL, mS_sL, mI_sR, mL_sR, mR_s1, mR_s2, mK_sR, mS_sR, mA_s1, mA_s2, mL_sA, mR_sA, mK_sA, mS_sA, ix_n, ix_a, ix_m, ix_s, z_sw, z_stop, forall_const, true_implies, false_implies, imp_self, implies_true, not_true_eq_false, not_false_eq_true, ne_eq, eq_self, Option.some.injEq, reduceCtorEq, Nat.reduceAdd, Nat.reduceSub, Nat.reduceMul, Nat.reduceEqDiff, Nat.reduceLT, Nat.reduceLeDiff, Int.reduceAdd, Int.reduceMul, Int.reduceSub, Int.reduceNeg, Int.reduceToNat, Int.reduceLT, Int.reduceLE, Int.reduceEq, ↓reduceIte, List.reverse_cons, Option.toList, List.cons_append, List.nil_append, vI_inj, vL_inj, vO_inj, rI, rL, rO, rV, mI_sQ, mL_sQ, mK_sQ, mS_sQ, mQ_s1, mQ_s2, iL_and, iL_or, iL_xor, iL_shl, iL_ushr, iR_and, iR_or, iR_xor, iR_shl, iR_shr, iR_ushr, iR_cmp, yc0, tlX8_present, o_aload, o_getR, o_goto, o_iadd, o_iald, o_ic, o_icge, o_icne, o_iinc, o_iload, o_iret, o_istore]
  try simp +contextual (disch := omega) only [impF, impT, and_true, true_and, implies_true, not_false_eq_true, not_true_eq_false]
  exact h0
def cbB (A : zA) (s : Nat → Nat) (k bc bp : Nat) : Bool := decide (cnt (chB A s) k < bc ∨ (cnt (chB A s) k = bc ∧ cnt (prB s) k < bp))
set_option maxHeartbeats 4000000 in
theorem sm_canBeBetter (l : Launch) (G : zG) (h : zH) (k bc bp : Nat) (s : Nat → Nat) (A : zA) (hS : ShM h) (hm : MA (gI h 94) A) (hA : AOK A) (hk : k ≤ 8) (hE : EnO h 104 k s) (hs : ∀ q, q < k → s q ≤ aN A q) (h16 : gI h 93 16 = (bc : Int)) (h17 : gI h 93 17 = (bp : Int)) (hb1 : bc ≤ 9) (hb2 : bp ≤ 9) (lv : Nat) (hlv : 3 ≤ lv) : z_Sp l G mtX8_canBeBetter lv 0 0 [vR 93, vI k] (h) (rI (b01 (cbB A s k bc bp)) h) := by
  have k0 := hS.1
  have c1 := cnt_le (chB A s) k
  have c2 := cnt_le (prB s) k
  refine x_enter [vR 93, vI k, vJ] (by decide +kernel) (by omega) rfl (Nat.le_of_ble_eq_true rfl) ?_
  generalize hQ : rI (b01 (cbB A s k bc bp)) h = QQ
  refine z_run1 tsX8_canBeBetter [] 20 ?_
  simp (maxSteps := 1000000) -implicitDefEqProofs +contextual (disch := omega) only [z_wp_t, z_wp_u, ↓pI_e, ↓pL_e, ↓pO_e, ↓pR_e, ↓p1_I, ↓p1_O, z_gl, z_st1, z_st2, z_nl_I, z_nl_O, z_nl_J, z_nl_L, if_true, if_false, ite_true, ite_false, true_and, and_true, List.mem_cons, List.not_mem_nil, or_false, false_or, or_self, List.length_cons, List.length_nil, InR_t, InL_t, z_ix_t, mI_s1, mI_s2, ↓brT, ↓brF, ↓brT', ↓brF', mL_sI, mR_sI, mK_sI, mS_sI, mI_sL, mL_s1, mL_s2, mR_sL, mK_sL, mS_sL, mI_sR, mL_sR, mR_s1, mR_s2, mK_sR, mS_sR, mA_s1, mA_s2, mL_sA, mR_sA, mK_sA, mS_sA, ix_n, ix_a, ix_m, ix_s, z_sw, z_stop, forall_const, true_implies, false_implies, imp_self, implies_true, not_true_eq_false, not_false_eq_true, ne_eq, eq_self, Option.some.injEq, reduceCtorEq, Nat.reduceAdd, Nat.reduceSub, Nat.reduceMul, Nat.reduceEqDiff, Nat.reduceLT, Nat.reduceLeDiff, Int.reduceAdd, Int.reduceMul, Int.reduceSub, Int.reduceNeg, Int.reduceToNat, Int.reduceLT, Int.reduceLE, Int.reduceEq, ↓reduceIte, List.reverse_cons, Option.toList, List.cons_append, List.nil_append, vI_inj, vL_inj, vO_inj, rI, rL, rO, rV, mI_sQ, mL_sQ, mK_sQ, mS_sQ, mQ_s1, mQ_s2, iL_and, iL_or, iL_xor, iL_shl, iL_ushr, iR_and, iR_or, iR_xor, iR_shl, iR_shr, iR_ushr, iR_cmp, yc0, tlX8_canBeBetter, tkX8_canBeBetter, o_aload, o_getI, o_goto, o_ic, o_icge, o_iclt, o_icne, o_iload, o_istore, o_zret]
  try simp +contextual (disch := omega) only [impF, impT, and_true, true_and, implies_true, not_false_eq_true, not_true_eq_false]
  refine x_callV (by decide +kernel) cv_X8_162 (sm_changes l G h k s A hS hm hA hk hE hs 2 (by omega)) k0 (by omega) rfl (by omega) (by omega) rfl (Nat.le_of_ble_eq_true rfl) ?_
  rintro r' h' ⟨rfl, hE'⟩
  subst h'
  by_cases h1 : cnt (chB A s) k < bc
  · have hc : cbB A s k bc bp = true := by unfold cbB; simp [h1]
    refine z_run1 tsX8_canBeBetter [] 20 ?_
    simp (maxSteps := 1000000) -implicitDefEqProofs +contextual (disch := omega) only [z_wp_t, z_wp_u, ↓pI_e, ↓pL_e, ↓pO_e, ↓pR_e, ↓p1_I, ↓p1_O, z_gl, z_st1, z_st2, z_nl_I, z_nl_O, z_nl_J, z_nl_L, if_true, if_false, ite_true, ite_false, true_and, and_true, List.mem_cons, List.not_mem_nil, or_false, false_or, or_self, List.length_cons, List.length_nil, InR_t, InL_t, z_ix_t, mI_s1, mI_s2, ↓brT, ↓brF, ↓brT', ↓brF', mL_sI, mR_sI, mK_sI, mS_sI, mI_sL, mL_s1, mL_s2, mR_sL, mK_sL, mS_sL, mI_sR, mL_sR, mR_s1, mR_s2, mK_sR, mS_sR, mA_s1, mA_s2, mL_sA, mR_sA, mK_sA, mS_sA, ix_n, ix_a, ix_m, ix_s, z_sw, z_stop, forall_const, true_implies, false_implies, imp_self, implies_true, not_true_eq_false, not_false_eq_true, ne_eq, eq_self, Option.some.injEq, reduceCtorEq, Nat.reduceAdd, Nat.reduceSub, Nat.reduceMul, Nat.reduceEqDiff, Nat.reduceLT, Nat.reduceLeDiff, Int.reduceAdd, Int.reduceMul, Int.reduceSub, Int.reduceNeg, Int.reduceToNat, Int.reduceLT, Int.reduceLE, Int.reduceEq, ↓reduceIte, List.reverse_cons, Option.toList, List.cons_append, List.nil_append, vI_inj, vL_inj, vO_inj, rI, rL, rO, rV, mI_sQ, mL_sQ, mK_sQ, mS_sQ, mQ_s1, mQ_s2, iL_and, iL_or, iL_xor, iL_shl, iL_ushr, iR_and, iR_or, iR_xor, iR_shl, iR_shr, iR_ushr, iR_cmp, yc0, tlX8_canBeBetter, tkX8_canBeBetter, o_aload, o_getI, o_goto, o_ic, o_icge, o_iclt, o_icne, o_iload, o_istore, o_zret, k0, h16]
    try simp +contextual (disch := omega) only [impF, impT, and_true, true_and, implies_true, not_false_eq_true, not_true_eq_false]
    rw [← hQ, hc]
    exact ⟨rfl, rfl⟩
  · by_cases h2 : cnt (chB A s) k = bc
    · refine z_run1 tsX8_canBeBetter [] 20 ?_
      simp (maxSteps := 1000000) -implicitDefEqProofs +contextual (disch := omega) only [z_wp_t, z_wp_u, ↓pI_e, ↓pL_e, ↓pO_e, ↓pR_e, ↓p1_I, ↓p1_O, z_gl, z_st1, z_st2, z_nl_I, z_nl_O, z_nl_J, z_nl_L, if_true, if_false, ite_true, ite_false, true_and, and_true, List.mem_cons, List.not_mem_nil, or_false, false_or, or_self, List.length_cons, List.length_nil, InR_t, InL_t, z_ix_t, mI_s1, mI_s2, ↓brT, ↓brF, ↓brT', ↓brF', mL_sI, mR_sI, mK_sI, mS_sI, mI_sL, mL_s1, mL_s2, mR_sL, mK_sL, mS_sL, mI_sR, mL_sR, mR_s1, mR_s2, mK_sR, mS_sR, mA_s1, mA_s2, mL_sA, mR_sA, mK_sA, mS_sA, ix_n, ix_a, ix_m, ix_s, z_sw, z_stop, forall_const, true_implies, false_implies, imp_self, implies_true, not_true_eq_false, not_false_eq_true, ne_eq, eq_self, Option.some.injEq, reduceCtorEq, Nat.reduceAdd, Nat.reduceSub, Nat.reduceMul, Nat.reduceEqDiff, Nat.reduceLT, Nat.reduceLeDiff, Int.reduceAdd, Int.reduceMul, Int.reduceSub, Int.reduceNeg, Int.reduceToNat, Int.reduceLT, Int.reduceLE, Int.reduceEq, ↓reduceIte, List.reverse_cons, Option.toList, List.cons_append, List.nil_append, vI_inj, vL_inj, vO_inj, rI, rL, rO, rV, mI_sQ, mL_sQ, mK_sQ, mS_sQ, mQ_s1, mQ_s2, iL_and, iL_or, iL_xor, iL_shl, iL_ushr, iR_and, iR_or, iR_xor, iR_shl, iR_shr, iR_ushr, iR_cmp, yc0, tlX8_canBeBetter, tkX8_canBeBetter, o_aload, o_getI, o_goto, o_ic, o_icge, o_iclt, o_icne, o_iload, o_istore, o_zret, k0, h16]
      try simp +contextual (disch := omega) only [impF, impT, and_true, true_and, implies_true, not_false_eq_true, not_true_eq_false]
      refine x_callV (by decide +kernel) cv_X8_168 (sm_present l G h k s hS hk hE (fun q hq => Nat.le_trans (hs q hq) (hA.1 q (by omega))) 1 (by omega)) k0 (by omega) rfl (by omega) (by omega) rfl (Nat.le_of_ble_eq_true rfl) ?_
      rintro r' h' ⟨rfl, hE'⟩
      subst h'
      by_cases h3 : cnt (prB s) k < bp
      · have hc : cbB A s k bc bp = true := by unfold cbB; simp [h2, h3]
        refine z_run1 tsX8_canBeBetter [] 20 ?_
        simp (maxSteps := 1000000) -implicitDefEqProofs +contextual (disch := omega) only [z_wp_t, z_wp_u, ↓pI_e, ↓pL_e, ↓pO_e, ↓pR_e, ↓p1_I, ↓p1_O, z_gl, z_st1, z_st2, z_nl_I, z_nl_O, z_nl_J, z_nl_L, if_true, if_false, ite_true, ite_false, true_and, and_true, List.mem_cons, List.not_mem_nil, or_false, false_or, or_self, List.length_cons, List.length_nil, InR_t, InL_t, z_ix_t, mI_s1, mI_s2, ↓brT, ↓brF, ↓brT', ↓brF', mL_sI, mR_sI, mK_sI, mS_sI, mI_sL, mL_s1, mL_s2, mR_sL, mK_sL, mS_sL, mI_sR, mL_sR, mR_s1, mR_s2, mK_sR, mS_sR, mA_s1, mA_s2, mL_sA, mR_sA, mK_sA, mS_sA, ix_n, ix_a, ix_m, ix_s, z_sw, z_stop, forall_const, true_implies, false_implies, imp_self, implies_true, not_true_eq_false, not_false_eq_true, ne_eq, eq_self, Option.some.injEq, reduceCtorEq, Nat.reduceAdd, Nat.reduceSub, Nat.reduceMul, Nat.reduceEqDiff, Nat.reduceLT, Nat.reduceLeDiff, Int.reduceAdd, Int.reduceMul, Int.reduceSub, Int.reduceNeg, Int.reduceToNat, Int.reduceLT, Int.reduceLE, Int.reduceEq, ↓reduceIte, List.reverse_cons, Option.toList, List.cons_append, List.nil_append, vI_inj, vL_inj, vO_inj, rI, rL, rO, rV, mI_sQ, mL_sQ, mK_sQ, mS_sQ, mQ_s1, mQ_s2, iL_and, iL_or, iL_xor, iL_shl, iL_ushr, iR_and, iR_or, iR_xor, iR_shl, iR_shr, iR_ushr, iR_cmp, yc0, tlX8_canBeBetter, tkX8_canBeBetter, o_aload, o_getI, o_goto, o_ic, o_icge, o_iclt, o_icne, o_iload, o_istore, o_zret, k0, h17]
        try simp +contextual (disch := omega) only [impF, impT, and_true, true_and, implies_true, not_false_eq_true, not_true_eq_false]
        rw [← hQ, hc]
        exact ⟨rfl, rfl⟩
      · have hc : cbB A s k bc bp = false := by unfold cbB; simp [h1, h3]
        refine z_run1 tsX8_canBeBetter [] 20 ?_
        simp (maxSteps := 1000000) -implicitDefEqProofs +contextual (disch := omega) only [z_wp_t, z_wp_u, ↓pI_e, ↓pL_e, ↓pO_e, ↓pR_e, ↓p1_I, ↓p1_O, z_gl, z_st1, z_st2, z_nl_I, z_nl_O, z_nl_J, z_nl_L, if_true, if_false, ite_true, ite_false, true_and, and_true, List.mem_cons, List.not_mem_nil, or_false, false_or, or_self, List.length_cons, List.length_nil, InR_t, InL_t, z_ix_t, mI_s1, mI_s2, ↓brT, ↓brF, ↓brT', ↓brF', mL_sI, mR_sI, mK_sI, mS_sI, mI_sL, mL_s1, mL_s2, mR_sL, mK_sL, mS_sL, mI_sR, mL_sR, mR_s1, mR_s2, mK_sR, mS_sR, mA_s1, mA_s2, mL_sA, mR_sA, mK_sA, mS_sA, ix_n, ix_a, ix_m, ix_s, z_sw, z_stop, forall_const, true_implies, false_implies, imp_self, implies_true, not_true_eq_false, not_false_eq_true, ne_eq, eq_self, Option.some.injEq, reduceCtorEq, Nat.reduceAdd, Nat.reduceSub, Nat.reduceMul, Nat.reduceEqDiff, Nat.reduceLT, Nat.reduceLeDiff, Int.reduceAdd, Int.reduceMul, Int.reduceSub, Int.reduceNeg, Int.reduceToNat, Int.reduceLT, Int.reduceLE, Int.reduceEq, ↓reduceIte, List.reverse_cons, Option.toList, List.cons_append, List.nil_append, vI_inj, vL_inj, vO_inj, rI, rL, rO, rV, mI_sQ, mL_sQ, mK_sQ, mS_sQ, mQ_s1, mQ_s2, iL_and, iL_or, iL_xor, iL_shl, iL_ushr, iR_and, iR_or, iR_xor, iR_shl, iR_shr, iR_ushr, iR_cmp, yc0, tlX8_canBeBetter, tkX8_canBeBetter, o_aload, o_getI, o_goto, o_ic, o_icge, o_iclt, o_icne, o_iload, o_istore, o_zret, k0, h17]
        try simp +contextual (disch := omega) only [impF, impT, and_true, true_and, implies_true, not_false_eq_true, not_true_eq_false]
        rw [← hQ, hc]
        exact ⟨rfl, rfl⟩
    · have hc : cbB A s k bc bp = false := by unfold cbB; simp [h1, h2]
      refine z_run1 tsX8_canBeBetter [] 20 ?_
      simp (maxSteps := 1000000) -implicitDefEqProofs +contextual (disch := omega) only [z_wp_t, z_wp_u, ↓pI_e, ↓pL_e, ↓pO_e, ↓pR_e, ↓p1_I, ↓p1_O, z_gl, z_st1, z_st2, z_nl_I, z_nl_O, z_nl_J, z_nl_L, if_true, if_false, ite_true, ite_false, true_and, and_true, List.mem_cons, List.not_mem_nil, or_false, false_or, or_self, List.length_cons, List.length_nil, InR_t, InL_t, z_ix_t, mI_s1, mI_s2, ↓brT, ↓brF, ↓brT', ↓brF', mL_sI, mR_sI, mK_sI, mS_sI, mI_sL, mL_s1, mL_s2, mR_sL, mK_sL, mS_sL, mI_sR, mL_sR, mR_s1, mR_s2, mK_sR, mS_sR, mA_s1, mA_s2, mL_sA, mR_sA, mK_sA, mS_sA, ix_n, ix_a, ix_m, ix_s, z_sw, z_stop, forall_const, true_implies, false_implies, imp_self, implies_true, not_true_eq_false, not_false_eq_true, ne_eq, eq_self, Option.some.injEq, reduceCtorEq, Nat.reduceAdd, Nat.reduceSub, Nat.reduceMul, Nat.reduceEqDiff, Nat.reduceLT, Nat.reduceLeDiff, Int.reduceAdd, Int.reduceMul, Int.reduceSub, Int.reduceNeg, Int.reduceToNat, Int.reduceLT, Int.reduceLE, Int.reduceEq, ↓reduceIte, List.reverse_cons, Option.toList, List.cons_append, List.nil_append, vI_inj, vL_inj, vO_inj, rI, rL, rO, rV, mI_sQ, mL_sQ, mK_sQ, mS_sQ, mQ_s1, mQ_s2, iL_and, iL_or, iL_xor, iL_shl, iL_ushr, iR_and, iR_or, iR_xor, iR_shl, iR_shr, iR_ushr, iR_cmp, yc0, tlX8_canBeBetter, tkX8_canBeBetter, o_aload, o_getI, o_goto, o_ic, o_icge, o_iclt, o_icne, o_iload, o_istore, o_zret, k0, h16]
      try simp +contextual (disch := omega) only [impF, impT, and_true, true_and, implies_true, not_false_eq_true, not_true_eq_false]
      rw [← hQ, hc]
      exact ⟨rfl, rfl⟩
set_option maxHeartbeats 4000000 in
theorem sm_notes (l : Launch) (G : zG) (h : zH) (s : Nat → Nat) (A : zA) (hS : ShM h) (hm : MA (gI h 94) A) (hA : AOK A) (hE : EnO h 104 8 s) (hs : ∀ q, q < 8 → s q ≤ aN A q) (lv : Nat) (hlv : 3 ≤ lv) : z_Sp l G mtX8_notes lv 0 0 [vR 93] (h) (fun r h' => r = none ∧ Fr (fun c => c = 93 ∨ c = 105) h h' ∧ gR h' = gR h ∧ (∀ k, k ≠ 16 → k ≠ 17 → gI h' 93 k = gI h 93 k) ∧ gL h' 93 = gL h 93 ∧ gI h' 93 16 = (cnt (chB A s) 8 : Int) ∧ gI h' 93 17 = (cnt (prB s) 8 : Int) ∧ EnO h' 105 8 s) := by
  have k0 := hS.1
  have k104 := hS.2.2.1.2.2.1
  have k105 := hS.2.2.1.2.2.2.1
  have r14 := hS.2.2.2.2.2.2.1
  have r15 := hS.2.2.2.2.2.2.2.1
  refine x_enter [vR 93, vJ] (by decide +kernel) (by omega) rfl (Nat.le_of_ble_eq_true rfl) ?_
  generalize hQ : (fun (r : Option zV) (h' : zH) => r = none ∧ Fr (fun c => c = 93 ∨ c = 105) h h' ∧ gR h' = gR h ∧ (∀ k, k ≠ 16 → k ≠ 17 → gI h' 93 k = gI h 93 k) ∧ gL h' 93 = gL h 93 ∧ gI h' 93 16 = (cnt (chB A s) 8 : Int) ∧ gI h' 93 17 = (cnt (prB s) 8 : Int) ∧ EnO h' 105 8 s) = QQ
  refine z_run1 tsX8_notes [] 20 ?_
  simp (maxSteps := 1000000) -implicitDefEqProofs +contextual (disch := omega) only [z_wp_t, z_wp_u, ↓pI_e, ↓pL_e, ↓pO_e, ↓pR_e, ↓p1_I, ↓p1_O, z_gl, z_st1, z_st2, z_nl_I, z_nl_O, z_nl_J, z_nl_L, if_true, if_false, ite_true, ite_false, true_and, and_true, List.mem_cons, List.not_mem_nil, or_false, false_or, or_self, List.length_cons, List.length_nil, InR_t, InL_t, z_ix_t, mI_s1, mI_s2, ↓brT, ↓brF, ↓brT', ↓brF', mL_sI, mR_sI, mK_sI, mS_sI, mI_sL, mL_s1, mL_s2, mR_sL, mK_sL, mS_sL, mI_sR, mL_sR, mR_s1, mR_s2, mK_sR, mS_sR, mA_s1, mA_s2, mL_sA, mR_sA, mK_sA, mS_sA, ix_n, ix_a, ix_m, ix_s, z_sw, z_stop, forall_const, true_implies, false_implies, imp_self, implies_true, not_true_eq_false, not_false_eq_true, ne_eq, eq_self, Option.some.injEq, reduceCtorEq, Nat.reduceAdd, Nat.reduceSub, Nat.reduceMul, Nat.reduceEqDiff, Nat.reduceLT, Nat.reduceLeDiff, Int.reduceAdd, Int.reduceMul, Int.reduceSub, Int.reduceNeg, Int.reduceToNat, Int.reduceLT, Int.reduceLE, Int.reduceEq, ↓reduceIte, List.reverse_cons, Option.toList, List.cons_append, List.nil_append, vI_inj, vL_inj, vO_inj, rI, rL, rO, rV, mI_sQ, mL_sQ, mK_sQ, mS_sQ, mQ_s1, mQ_s2, iL_and, iL_or, iL_xor, iL_shl, iL_ushr, iR_and, iR_or, iR_xor, iR_shl, iR_shr, iR_ushr, iR_cmp, yc0, tlX8_notes, tkX8_notes, o_aload, o_getR, o_goto, o_iald, o_iast, o_ic, o_icge, o_iinc, o_iload, o_istore, o_putI, o_vret]
  try simp +contextual (disch := omega) only [impF, impT, and_true, true_and, implies_true, not_false_eq_true, not_true_eq_false]
  refine x_callV (by decide +kernel) cv_X8_162 (sm_changes l G h 8 s A hS hm hA (by omega) hE hs 2 (by omega)) k0 (by omega) rfl (by omega) (by omega) rfl (Nat.le_of_ble_eq_true rfl) ?_
  rintro r' h' ⟨rfl, hE'⟩
  subst h'
  generalize cnt (chB A s) 8 = c1 at *
  have f1 : Fr (fun c => c = 93) h (sI h 93 16 (c1 : Int)) := Fr_I1 _ _ _ _
  have hS1 := hS.of f1.K (show gR (sI h 93 16 (c1 : Int)) = gR h from rfl)
  have hE1 : EnO (sI h 93 16 (c1 : Int)) 104 8 s := fun q hq => by rw [f1.I (by omega)]; exact hE q hq
  refine z_run1 tsX8_notes [] 20 ?_
  simp (maxSteps := 1000000) -implicitDefEqProofs +contextual (disch := omega) only [z_wp_t, z_wp_u, ↓pI_e, ↓pL_e, ↓pO_e, ↓pR_e, ↓p1_I, ↓p1_O, z_gl, z_st1, z_st2, z_nl_I, z_nl_O, z_nl_J, z_nl_L, if_true, if_false, ite_true, ite_false, true_and, and_true, List.mem_cons, List.not_mem_nil, or_false, false_or, or_self, List.length_cons, List.length_nil, InR_t, InL_t, z_ix_t, mI_s1, mI_s2, ↓brT, ↓brF, ↓brT', ↓brF', mL_sI, mR_sI, mK_sI, mS_sI, mI_sL, mL_s1, mL_s2, mR_sL, mK_sL, mS_sL, mI_sR, mL_sR, mR_s1, mR_s2, mK_sR, mS_sR, mA_s1, mA_s2, mL_sA, mR_sA, mK_sA, mS_sA, ix_n, ix_a, ix_m, ix_s, z_sw, z_stop, forall_const, true_implies, false_implies, imp_self, implies_true, not_true_eq_false, not_false_eq_true, ne_eq, eq_self, Option.some.injEq, reduceCtorEq, Nat.reduceAdd, Nat.reduceSub, Nat.reduceMul, Nat.reduceEqDiff, Nat.reduceLT, Nat.reduceLeDiff, Int.reduceAdd, Int.reduceMul, Int.reduceSub, Int.reduceNeg, Int.reduceToNat, Int.reduceLT, Int.reduceLE, Int.reduceEq, ↓reduceIte, List.reverse_cons, Option.toList, List.cons_append, List.nil_append, vI_inj, vL_inj, vO_inj, rI, rL, rO, rV, mI_sQ, mL_sQ, mK_sQ, mS_sQ, mQ_s1, mQ_s2, iL_and, iL_or, iL_xor, iL_shl, iL_ushr, iR_and, iR_or, iR_xor, iR_shl, iR_shr, iR_ushr, iR_cmp, yc0, tlX8_notes, tkX8_notes, o_aload, o_getR, o_goto, o_iald, o_iast, o_ic, o_icge, o_iinc, o_iload, o_istore, o_putI, o_vret, k0]
  try simp +contextual (disch := omega) only [impF, impT, and_true, true_and, implies_true, not_false_eq_true, not_true_eq_false]
  refine x_callV (by decide +kernel) cv_X8_168 (sm_present l G (sI h 93 16 (c1 : Int)) 8 s hS1 (by omega) hE1 (fun q hq => Nat.le_trans (hs q hq) (hA.1 q (by omega))) 1 (by omega)) k0 (by omega) rfl (by omega) (by omega) rfl (Nat.le_of_ble_eq_true rfl) ?_
  rintro r' h' ⟨rfl, hE'⟩
  subst h'
  generalize cnt (prB s) 8 = c2 at *
  have hlo : ∀ (d i : Nat) (g : Nat → Int), i + d = 8 → (∀ q, q < i → g q = (opt (s q) : Int)) → z_X l G mtX8_notes lv 0 0 (QQ) 0 0 (sA (sI (sI h 93 16 (c1 : Int)) 93 17 (c2 : Int)) 105 g) 22 [vR 93, vI i] [] := by
    intro d
    induction d with
    | zero =>
      intro i g hi hg
      refine z_run1 tsX8_notes [] 20 ?_
      simp (maxSteps := 1000000) -implicitDefEqProofs +contextual (disch := omega) only [z_wp_t, z_wp_u, ↓pI_e, ↓pL_e, ↓pO_e, ↓pR_e, ↓p1_I, ↓p1_O, z_gl, z_st1, z_st2, z_nl_I, z_nl_O, z_nl_J, z_nl_L, if_true, if_false, ite_true, ite_false, true_and, and_true, List.mem_cons, List.not_mem_nil, or_false, false_or, or_self, List.length_cons, List.length_nil, InR_t, InL_t, z_ix_t, mI_s1, mI_s2, ↓brT, ↓brF, ↓brT', ↓brF', mL_sI, mR_sI, mK_sI, mS_sI, mI_sL, mL_s1, mL_s2, mR_sL, mK_sL, mS_sL, mI_sR, mL_sR, mR_s1, mR_s2, mK_sR, mS_sR, mA_s1, mA_s2, mL_sA, mR_sA, mK_sA, mS_sA, ix_n, ix_a, ix_m, ix_s, z_sw, z_stop, forall_const, true_implies, false_implies, imp_self, implies_true, not_true_eq_false, not_false_eq_true, ne_eq, eq_self, Option.some.injEq, reduceCtorEq, Nat.reduceAdd, Nat.reduceSub, Nat.reduceMul, Nat.reduceEqDiff, Nat.reduceLT, Nat.reduceLeDiff, Int.reduceAdd, Int.reduceMul, Int.reduceSub, Int.reduceNeg, Int.reduceToNat, Int.reduceLT, Int.reduceLE, Int.reduceEq, ↓reduceIte, List.reverse_cons, Option.toList, List.cons_append, List.nil_append, vI_inj, vL_inj, vO_inj, rI, rL, rO, rV, mI_sQ, mL_sQ, mK_sQ, mS_sQ, mQ_s1, mQ_s2, iL_and, iL_or, iL_xor, iL_shl, iL_ushr, iR_and, iR_or, iR_xor, iR_shl, iR_shr, iR_ushr, iR_cmp, yc0, tlX8_notes, tkX8_notes, o_aload, o_getR, o_goto, o_iald, o_iast, o_ic, o_icge, o_iinc, o_iload, o_istore, o_putI, o_vret]
      try simp +contextual (disch := omega) only [impF, impT, and_true, true_and, implies_true, not_false_eq_true, not_true_eq_false]
      rw [← hQ]
      refine ⟨rfl, ((Fr.sI (fun c => c = 93 ∨ c = 105) _ _ _ _ (Or.inl rfl)).tr' (Fr.sI (fun c => c = 93 ∨ c = 105) _ _ _ _ (Or.inl rfl)) (fun _ q => q) (fun _ q => q)).tr' (Fr.sA (fun c => c = 93 ∨ c = 105) _ _ _ (Or.inr rfl)) (fun _ q => q) (fun _ q => q), rfl, fun k q1 q2 => by rw [mA_s2 _ _ _ (by omega), mI_s2 _ _ (Or.inr q2), mI_s2 _ _ (Or.inr q1)], rfl, by rw [mA_s2 _ _ _ (by omega), mI_s2 _ _ (Or.inr (by omega)), mI_s1], by rw [mA_s2 _ _ _ (by omega), mI_s1], fun q hq => by rw [mA_s1]; exact hg q (by omega)⟩
    | succ d ih =>
      intro i g hi hg
      have e104 := hE i (by omega)
      have hnx := ih (i + 1) (up g i (opt (s i) : Int)) (by omega) (fun q hq => by
        by_cases e : q = i
        · rw [e, up_s]
        · rw [up_n _ _ e]; exact hg q (by omega))
      refine z_run1 tsX8_notes [22] 30 ?_
      simp (maxSteps := 1000000) -implicitDefEqProofs +contextual (disch := omega) only [z_wp_t, z_wp_u, ↓pI_e, ↓pL_e, ↓pO_e, ↓pR_e, ↓p1_I, ↓p1_O, z_gl, z_st1, z_st2, z_nl_I, z_nl_O, z_nl_J, z_nl_L, if_true, if_false, ite_true, ite_false, true_and, and_true, List.mem_cons, List.not_mem_nil, or_false, false_or, or_self, List.length_cons, List.length_nil, InR_t, InL_t, z_ix_t, mI_s1, mI_s2, ↓brT, ↓brF, ↓brT', ↓brF', mL_sI, mR_sI, mK_sI, mS_sI, mI_sL, mL_s1, mL_s2, mR_sL, mK_sL, mS_sL, mI_sR, mL_sR, mR_s1, mR_s2, mK_sR, mS_sR, mA_s1, mA_s2, mL_sA, mR_sA, mK_sA, mS_sA, ix_n, ix_a, ix_m, ix_s, z_sw, z_stop, forall_const, true_implies, false_implies, imp_self, implies_true, not_true_eq_false, not_false_eq_true, ne_eq, eq_self, Option.some.injEq, reduceCtorEq, Nat.reduceAdd, Nat.reduceSub, Nat.reduceMul, Nat.reduceEqDiff, Nat.reduceLT, Nat.reduceLeDiff, Int.reduceAdd, Int.reduceMul, Int.reduceSub, Int.reduceNeg, Int.reduceToNat, Int.reduceLT, Int.reduceLE, Int.reduceEq, ↓reduceIte, List.reverse_cons, Option.toList, List.cons_append, List.nil_append, vI_inj, vL_inj, vO_inj, rI, rL, rO, rV, mI_sQ, mL_sQ, mK_sQ, mS_sQ, mQ_s1, mQ_s2, iL_and, iL_or, iL_xor, iL_shl, iL_ushr, iR_and, iR_or, iR_xor, iR_shl, iR_shr, iR_ushr, iR_cmp, yc0, tlX8_notes, tkX8_notes, o_aload, o_getR, o_goto, o_iald, o_iast, o_ic, o_icge, o_iinc, o_iload, o_istore, o_putI, o_vret, k0, k104, k105, r14, r15, e104, sI_sA]
      try simp +contextual (disch := omega) only [impF, impT, and_true, true_and, implies_true, not_false_eq_true, not_true_eq_false]
      exact hnx
  have h0 := hlo 8 0 (gI (sI (sI h 93 16 (c1 : Int)) 93 17 (c2 : Int)) 105) (by omega) (fun q hq => by omega)
  rw [sA_self] at h0
  refine z_run1 tsX8_notes [22] 20 ?_
  simp (maxSteps := 1000000) -implicitDefEqProofs +contextual (disch := omega) only [z_wp_t, z_wp_u, ↓pI_e, ↓pL_e, ↓pO_e, ↓pR_e, ↓p1_I, ↓p1_O, z_gl, z_st1, z_st2, z_nl_I, z_nl_O, z_nl_J, z_nl_L, if_true, if_false, ite_true, ite_false, true_and, and_true, List.mem_cons, List.not_mem_nil, or_false, false_or, or_self, List.length_cons, List.length_nil, InR_t, InL_t, z_ix_t, mI_s1, mI_s2, ↓brT, ↓brF, ↓brT', ↓brF', mL_sI, mR_sI, mK_sI, mS_sI, mI_sL, mL_s1, mL_s2, mR_sL, mK_sL, mS_sL, mI_sR, mL_sR, mR_s1, mR_s2, mK_sR, mS_sR, mA_s1, mA_s2, mL_sA, mR_sA, mK_sA, mS_sA, ix_n, ix_a, ix_m, ix_s, z_sw, z_stop, forall_const, true_implies, false_implies, imp_self, implies_true, not_true_eq_false, not_false_eq_true, ne_eq, eq_self, Option.some.injEq, reduceCtorEq, Nat.reduceAdd, Nat.reduceSub, Nat.reduceMul, Nat.reduceEqDiff, Nat.reduceLT, Nat.reduceLeDiff, Int.reduceAdd, Int.reduceMul, Int.reduceSub, Int.reduceNeg, Int.reduceToNat, Int.reduceLT, Int.reduceLE, Int.reduceEq, ↓reduceIte, List.reverse_cons, Option.toList, List.cons_append, List.nil_append, vI_inj, vL_inj, vO_inj, rI, rL, rO, rV, mI_sQ, mL_sQ, mK_sQ, mS_sQ, mQ_s1, mQ_s2, iL_and, iL_or, iL_xor, iL_shl, iL_ushr, iR_and, iR_or, iR_xor, iR_shl, iR_shr, iR_ushr, iR_cmp, yc0, tlX8_notes, tkX8_notes, o_aload, o_getR, o_goto, o_iald, o_iast, o_ic, o_icge, o_iinc, o_iload, o_istore, o_putI, o_vret, k0]
  try simp +contextual (disch := omega) only [impF, impT, and_true, true_and, implies_true, not_false_eq_true, not_true_eq_false]
  exact h0
def PLb (A : zA) (S : Nat → Bool) (AL : Nat → Nat → Bool) (t : Nat → Nat) : Bool := allN (fun p => AL p (t p) && fitB A S t p) 8
/-- what has been found -/
def JF (A : zA) (b : Int) (n : Nat) (h : zH) (l : List (Nat → Nat)) : Prop := (b = 0 → n = l.length) ∧ ∃ bc bp : Nat, gI h 93 16 = (bc : Int) ∧ gI h 93 17 = (bp : Int) ∧ bc ≤ 9 ∧ bp ≤ 9 ∧ (b = 1 → ((impL (cost A) none l = none → bc = 9 ∧ bp = 9 ∧ n = 0) ∧ ∀ t, impL (cost A) none l = some t → bc = cnt (chB A t) 8 ∧ bp = cnt (prB t) 8 ∧ EnO h 105 8 t ∧ 1 ≤ n ∧ n + cost A t ≤ 90))
theorem impL_keep {A : zA} {y : Nat → Nat} : ∀ {l : List (Nat → Nat)}, (∀ t, t ∈ l → cost A y ≤ cost A t) → impL (cost A) (some y) l = some y
  | [], _ => rfl
  | x :: l, h => by
    simp only [impL]
    rw [if_neg (by have := h x List.mem_cons_self; omega)]
    exact impL_keep (fun t ht => h t (List.mem_cons_of_mem _ ht))
theorem cnt_mono (f : Nat → Bool) {k m : Nat} (h : k ≤ m) : cnt f k ≤ cnt f m := by
  obtain ⟨d, rfl⟩ : ∃ d, m = k + d := ⟨m - k, by omega⟩
  rw [cnt_add]
  omega
theorem JF.prune {A : zA} {n : Nat} {h : zH} {l : List (Nat → Nat)} (hJ : JF A 1 n h l) {bc bp k : Nat} {s : Nat → Nat} (h16 : gI h 93 16 = (bc : Int)) (h17 : gI h 93 17 = (bp : Int)) (hk : k ≤ 8) (hc : cbB A s k bc bp = false) {m : List (Nat → Nat)} (hm : ∀ t, t ∈ m → ∀ q, q < k → t q = s q) : JF A 1 n h (l ++ m) := by
  obtain ⟨-, bc', bp', g1, g2, g3, g4, g5⟩ := hJ
  obtain rfl : bc' = bc := by omega
  obtain rfl : bp' = bp := by omega
  obtain ⟨j1, j2⟩ := g5 rfl
  refine ⟨fun q => by omega, bc', bp', g1, g2, g3, g4, fun _ => ?_⟩
  have c1 := cnt_le (chB A s) k
  have c2 := cnt_le (prB s) k
  unfold cbB at hc
  simp only [decide_eq_false_iff_not] at hc
  rw [impL_app]
  cases ho : impL (cost A) none l with
  | none =>
    obtain ⟨e1, e2, e3⟩ := j1 ho
    omega
  | some y =>
    obtain ⟨e1, e2, e3, e4, e5⟩ := j2 y ho
    have hk2 : impL (cost A) (some y) m = some y := impL_keep (fun t ht => by
      have ht' := hm t ht
      have d1 : cnt (chB A t) k = cnt (chB A s) k := cnt_congr fun q hq => by unfold chB; rw [ht' q hq]
      have d2 : cnt (prB t) k = cnt (prB s) k := cnt_congr fun q hq => by unfold prB; rw [ht' q hq]
      have m1 := cnt_mono (chB A t) hk
      have m2 := cnt_mono (prB t) hk
      have m3 := cnt_le (prB y) 8
      unfold cost
      omega)
    rw [hk2]
    exact ⟨fun q => by (cases q), fun t ht => by cases ht; exact ⟨e1, e2, e3, e4, e5⟩⟩
theorem JF.leaf {A : zA} {b : Int} {n : Nat} {h h' : zH} {l : List (Nat → Nat)} (hb : b = 0 ∨ b = 1) (hJ : JF A b n h l) {bc bp : Nat} {s : Nat → Nat} (h16 : gI h 93 16 = (bc : Int)) (h17 : gI h 93 17 = (bp : Int)) (hc : b = 1 → cbB A s 8 bc bp = true) (n16 : gI h' 93 16 = (cnt (chB A s) 8 : Int)) (n17 : gI h' 93 17 = (cnt (prB s) 8 : Int)) (hE : EnO h' 105 8 s) : JF A b (n + 1) h' (l ++ [s]) := by
  obtain ⟨g0, bc', bp', g1, g2, g3, g4, g5⟩ := hJ
  obtain rfl : bc' = bc := by omega
  obtain rfl : bp' = bp := by omega
  have c1 := cnt_le (chB A s) 8
  have c2 := cnt_le (prB s) 8
  refine ⟨fun q => by rw [List.length_append, g0 q]; rfl, cnt (chB A s) 8, cnt (prB s) 8, n16, n17, by omega, by omega, fun q => ?_⟩
  obtain ⟨j1, j2⟩ := g5 q
  have hc := hc q
  unfold cbB at hc
  simp only [decide_eq_true_eq] at hc
  have hcs : cost A s ≤ 80 := cost_le A s
  have res : impL (cost A) none (l ++ [s]) = some s ∧ n + 1 + cost A s ≤ 90 := by
    rw [impL_app]
    cases ho : impL (cost A) none l with
    | none =>
      obtain ⟨e1, e2, e3⟩ := j1 ho
      exact ⟨rfl, by omega⟩
    | some y =>
      obtain ⟨e1, e2, e3, e4, e5⟩ := j2 y ho
      have m3 := cnt_le (prB y) 8
      have hlt : cost A s < cost A y := by unfold cost; omega
      simp only [impL]
      rw [if_pos hlt]
      exact ⟨rfl, by omega⟩
  rw [res.1]
  exact ⟨fun q => by (cases q), fun t ht => by cases ht; exact ⟨rfl, rfl, hE, by omega, res.2⟩⟩
theorem JF.o {A : zA} {b : Int} {n : Nat} {h h' : zH} {l : List (Nat → Nat)} (hJ : JF A b n h l) (h16 : gI h' 93 16 = gI h 93 16) (h17 : gI h' 93 17 = gI h 93 17) (h105 : gI h' 105 = gI h 105) : JF A b n h' l := by
  unfold JF EnO at *
  rw [h16, h17, h105]
  exact hJ
