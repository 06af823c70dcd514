/-! the reference: requires, leads, first, why -/
def LdI (h : zH) (A : zA) (t : Nat → Nat) : Prop := ShM h ∧ MA (gI h 94) A ∧ (∀ r, r < aC A → PrR h A (actS A) r) ∧ EnO h 105 8 t
theorem LdI.s {h : zH} {A : zA} {t : Nat → Nat} (hL : LdI h A t) (g : Nat → Int) : LdI (sA h 106 g) A t := by
  obtain ⟨a1, a2, a3, a4⟩ := hL
  have f : Fr (fun c => c = 106) h (sA h 106 g) := Fr.sA _ _ _ _ rfl
  refine ⟨a1.of f.K rfl, by rw [f.I (by omega)]; exact a2, fun r hr => ?_, fun q hq => by rw [f.I (by omega)]; exact a4 q hq⟩
  have := a3 r hr
  unfold PrR at this ⊢
  rw [f.I (by omega), f.I (by omega), f.I (by omega)]
  exact this
set_option maxHeartbeats 4000000 in
theorem sm_requires (l : Launch) (G : zG) (h : zH) (r : Nat) (A : zA) (t : Nat → Nat) (hL : LdI h A t) (hA : AOK A) (ht : ∀ q, q < 8 → t q ≤ 4) (hr : r < aC A) (lv : Nat) (hlv : 3 ≤ lv) : z_Sp l G mtX8_requires lv 0 0 [vR 93, vI r] (h) (rI (b01 (req A t r)) h) := by
  obtain ⟨hS, hm, hP, hE⟩ := hL
  have h20 := hA.2.2.2.2.1
  have k0 := hS.1
  have k101 := hS.2.1.2.2.2.2.2.2.2
  have r11 := hS.2.2.2.1.2.2.2.2.2.2.2
  have k105 := hS.2.2.1.2.2.2.1
  have r15 := hS.2.2.2.2.2.2.2.1
  obtain ⟨u0, u1, u2, u3, -⟩ := hm.2.2.2.2.2 r hr
  have hra := hA.2.2.2.2.2.2 r hr
  obtain ⟨hT8, hC8⟩ := hra.lt
  have e101 := (hP r hr).1
  have hap := sm_applies l G h r 105 t A (actS A) hS hm hA hr k105 (hP r hr) (fun _ => ⟨hE _ hC8, ht _ hC8⟩) 2 (by omega)
  unfold RuA at hra
  have of3 := sm_of' l G h r 3 (rB (aR A r)) hS (by omega) (by omega) u3 1 (by omega)
  rw [show ((3 : Nat) : Int) = 3 from rfl] at of3
  clear hP hE hm ht
  unfold req
  refine x_enter [vR 93, vI r] (by decide +kernel) (by omega) rfl (Nat.le_of_ble_eq_true rfl) ?_
  cases ha : actS A r
  · rw [ha] at e101
    simp only [b01, Bool.false_eq_true, if_false] at e101
    refine z_run1 tsX8_requires [] 20 ?_
    simp (maxSteps := 1000000) -implicitDefEqProofs +contextual (disch := omega) only [z_wp_t, z_wp_u, ↓pI_e, ↓pL_e, ↓pO_e, ↓pR_e, ↓p1_I, ↓p1_O, z_gl, z_st1, z_st2, z_nl_I, z_nl_O, z_nl_J, z_nl_L, if_true, if_false, ite_true, ite_false, true_and, and_true, List.mem_cons, List.not_mem_nil, or_false, false_or, or_self, List.length_cons, List.length_nil, InR_t, InL_t, z_ix_t, mI_s1, mI_s2, ↓brT, ↓brF, ↓brT', ↓brF', mL_sI, mR_sI, mK_sI, mS_sI, mI_sL, mL_s1, mL_s2, mR_sL, mK_sL, mS_sL, mI_sR, mL_sR, mR_s1, mR_s2, mK_sR, mS_sR, mA_s1, mA_s2, mL_sA, mR_sA, mK_sA, mS_sA, ix_n, ix_a, ix_m, ix_s, z_sw, z_stop, forall_const, true_implies, false_implies, imp_self, implies_true, not_true_eq_false, not_false_eq_true, ne_eq, eq_self, Option.some.injEq, reduceCtorEq, Nat.reduceAdd, Nat.reduceSub, Nat.reduceMul, Nat.reduceEqDiff, Nat.reduceLT, Nat.reduceLeDiff, Int.reduceAdd, Int.reduceMul, Int.reduceSub, Int.reduceNeg, Int.reduceToNat, Int.reduceLT, Int.reduceLE, Int.reduceEq, ↓reduceIte, List.reverse_cons, Option.toList, List.cons_append, List.nil_append, vI_inj, vL_inj, vO_inj, rI, rL, rO, rV, mI_sQ, mL_sQ, mK_sQ, mS_sQ, mQ_s1, mQ_s2, iL_and, iL_or, iL_xor, iL_shl, iL_ushr, iR_and, iR_or, iR_xor, iR_shl, iR_shr, iR_ushr, iR_cmp, yc0, tlX8_requires, tkX8_requires, o_aload, o_getR, o_goto, o_ic, o_ifeq, o_ifne, o_iload, o_zald, o_zret, k0, k101, r11, e101]
    try simp +contextual (disch := omega) only [impF, impT, and_true, true_and, implies_true, not_false_eq_true, not_true_eq_false]
    simp [b01]
  · rw [ha] at e101
    simp only [b01, if_true] at e101
    refine z_run1 tsX8_requires [] 20 ?_
    simp (maxSteps := 1000000) -implicitDefEqProofs +contextual (disch := omega) only [z_wp_t, z_wp_u, ↓pI_e, ↓pL_e, ↓pO_e, ↓pR_e, ↓p1_I, ↓p1_O, z_gl, z_st1, z_st2, z_nl_I, z_nl_O, z_nl_J, z_nl_L, if_true, if_false, ite_true, ite_false, true_and, and_true, List.mem_cons, List.not_mem_nil, or_false, false_or, or_self, List.length_cons, List.length_nil, InR_t, InL_t, z_ix_t, mI_s1, mI_s2, ↓brT, ↓brF, ↓brT', ↓brF', mL_sI, mR_sI, mK_sI, mS_sI, mI_sL, mL_s1, mL_s2, mR_sL, mK_sL, mS_sL, mI_sR, mL_sR, mR_s1, mR_s2, mK_sR, mS_sR, mA_s1, mA_s2, mL_sA, mR_sA, mK_sA, mS_sA, ix_n, ix_a, ix_m, ix_s, z_sw, z_stop, forall_const, true_implies, false_implies, imp_self, implies_true, not_true_eq_false, not_false_eq_true, ne_eq, eq_self, Option.some.injEq, reduceCtorEq, Nat.reduceAdd, Nat.reduceSub, Nat.reduceMul, Nat.reduceEqDiff, Nat.reduceLT, Nat.reduceLeDiff, Int.reduceAdd, Int.reduceMul, Int.reduceSub, Int.reduceNeg, Int.reduceToNat, Int.reduceLT, Int.reduceLE, Int.reduceEq, ↓reduceIte, List.reverse_cons, Option.toList, List.cons_append, List.nil_append, vI_inj, vL_inj, vO_inj, rI, rL, rO, rV, mI_sQ, mL_sQ, mK_sQ, mS_sQ, mQ_s1, mQ_s2, iL_and, iL_or, iL_xor, iL_shl, iL_ushr, iR_and, iR_or, iR_xor, iR_shl, iR_shr, iR_ushr, iR_cmp, yc0, tlX8_requires, tkX8_requires, o_aload, o_getR, o_goto, o_ic, o_ifeq, o_ifne, o_iload, o_zald, o_zret, k0, k101, r11, e101]
    try simp +contextual (disch := omega) only [impF, impT, and_true, true_and, implies_true, not_false_eq_true, not_true_eq_false]
    refine x_callV (by decide +kernel) cv_X8_138 (of3) k0 (by omega) rfl (by omega) (by omega) rfl (Nat.le_of_ble_eq_true rfl) ?_
    rintro r' h' ⟨rfl, hE⟩
    subst h'
    by_cases hb : rB (aR A r) = 0
    · refine z_run1 tsX8_requires [] 20 ?_
      simp (maxSteps := 1000000) -implicitDefEqProofs +contextual (disch := omega) only [z_wp_t, z_wp_u, ↓pI_e, ↓pL_e, ↓pO_e, ↓pR_e, ↓p1_I, ↓p1_O, z_gl, z_st1, z_st2, z_nl_I, z_nl_O, z_nl_J, z_nl_L, if_true, if_false, ite_true, ite_false, true_and, and_true, List.mem_cons, List.not_mem_nil, or_false, false_or, or_self, List.length_cons, List.length_nil, InR_t, InL_t, z_ix_t, mI_s1, mI_s2, ↓brT, ↓brF, ↓brT', ↓brF', mL_sI, mR_sI, mK_sI, mS_sI, mI_sL, mL_s1, mL_s2, mR_sL, mK_sL, mS_sL, mI_sR, mL_sR, mR_s1, mR_s2, mK_sR, mS_sR, mA_s1, mA_s2, mL_sA, mR_sA, mK_sA, mS_sA, ix_n, ix_a, ix_m, ix_s, z_sw, z_stop, forall_const, true_implies, false_implies, imp_self, implies_true, not_true_eq_false, not_false_eq_true, ne_eq, eq_self, Option.some.injEq, reduceCtorEq, Nat.reduceAdd, Nat.reduceSub, Nat.reduceMul, Nat.reduceEqDiff, Nat.reduceLT, Nat.reduceLeDiff, Int.reduceAdd, Int.reduceMul, Int.reduceSub, Int.reduceNeg, Int.reduceToNat, Int.reduceLT, Int.reduceLE, Int.reduceEq, ↓reduceIte, List.reverse_cons, Option.toList, List.cons_append, List.nil_append, vI_inj, vL_inj, vO_inj, rI, rL, rO, rV, mI_sQ, mL_sQ, mK_sQ, mS_sQ, mQ_s1, mQ_s2, iL_and, iL_or, iL_xor, iL_shl, iL_ushr, iR_and, iR_or, iR_xor, iR_shl, iR_shr, iR_ushr, iR_cmp, yc0, tlX8_requires, tkX8_requires, o_aload, o_getR, o_goto, o_ic, o_ifeq, o_ifne, o_iload, o_zald, o_zret, hb, k0, k105, r15]
      try simp +contextual (disch := omega) only [impF, impT, and_true, true_and, implies_true, not_false_eq_true, not_true_eq_false]
      refine x_callV (by decide +kernel) cv_X8_155 (hap) k0 (by omega) rfl (by omega) (by omega) rfl (Nat.le_of_ble_eq_true rfl) ?_
      rintro r' h' ⟨rfl, hE⟩
      subst h'
      cases hp : apB A r t
      · simp only [b01, Bool.false_eq_true, if_false]
        refine z_run1 tsX8_requires [] 20 ?_
        simp (maxSteps := 1000000) -implicitDefEqProofs +contextual (disch := omega) only [z_wp_t, z_wp_u, ↓pI_e, ↓pL_e, ↓pO_e, ↓pR_e, ↓p1_I, ↓p1_O, z_gl, z_st1, z_st2, z_nl_I, z_nl_O, z_nl_J, z_nl_L, if_true, if_false, ite_true, ite_false, true_and, and_true, List.mem_cons, List.not_mem_nil, or_false, false_or, or_self, List.length_cons, List.length_nil, InR_t, InL_t, z_ix_t, mI_s1, mI_s2, ↓brT, ↓brF, ↓brT', ↓brF', mL_sI, mR_sI, mK_sI, mS_sI, mI_sL, mL_s1, mL_s2, mR_sL, mK_sL, mS_sL, mI_sR, mL_sR, mR_s1, mR_s2, mK_sR, mS_sR, mA_s1, mA_s2, mL_sA, mR_sA, mK_sA, mS_sA, ix_n, ix_a, ix_m, ix_s, z_sw, z_stop, forall_const, true_implies, false_implies, imp_self, implies_true, not_true_eq_false, not_false_eq_true, ne_eq, eq_self, Option.some.injEq, reduceCtorEq, Nat.reduceAdd, Nat.reduceSub, Nat.reduceMul, Nat.reduceEqDiff, Nat.reduceLT, Nat.reduceLeDiff, Int.reduceAdd, Int.reduceMul, Int.reduceSub, Int.reduceNeg, Int.reduceToNat, Int.reduceLT, Int.reduceLE, Int.reduceEq, ↓reduceIte, List.reverse_cons, Option.toList, List.cons_append, List.nil_append, vI_inj, vL_inj, vO_inj, rI, rL, rO, rV, mI_sQ, mL_sQ, mK_sQ, mS_sQ, mQ_s1, mQ_s2, iL_and, iL_or, iL_xor, iL_shl, iL_ushr, iR_and, iR_or, iR_xor, iR_shl, iR_shr, iR_ushr, iR_cmp, yc0, tlX8_requires, tkX8_requires, o_aload, o_getR, o_goto, o_ic, o_ifeq, o_ifne, o_iload, o_zald, o_zret]
        try simp +contextual (disch := omega) only [impF, impT, and_true, true_and, implies_true, not_false_eq_true, not_true_eq_false]
        simp [b01]
      · simp only [b01, if_true]
        refine z_run1 tsX8_requires [] 20 ?_
        simp (maxSteps := 1000000) -implicitDefEqProofs +contextual (disch := omega) only [z_wp_t, z_wp_u, ↓pI_e, ↓pL_e, ↓pO_e, ↓pR_e, ↓p1_I, ↓p1_O, z_gl, z_st1, z_st2, z_nl_I, z_nl_O, z_nl_J, z_nl_L, if_true, if_false, ite_true, ite_false, true_and, and_true, List.mem_cons, List.not_mem_nil, or_false, false_or, or_self, List.length_cons, List.length_nil, InR_t, InL_t, z_ix_t, mI_s1, mI_s2, ↓brT, ↓brF, ↓brT', ↓brF', mL_sI, mR_sI, mK_sI, mS_sI, mI_sL, mL_s1, mL_s2, mR_sL, mK_sL, mS_sL, mI_sR, mL_sR, mR_s1, mR_s2, mK_sR, mS_sR, mA_s1, mA_s2, mL_sA, mR_sA, mK_sA, mS_sA, ix_n, ix_a, ix_m, ix_s, z_sw, z_stop, forall_const, true_implies, false_implies, imp_self, implies_true, not_true_eq_false, not_false_eq_true, ne_eq, eq_self, Option.some.injEq, reduceCtorEq, Nat.reduceAdd, Nat.reduceSub, Nat.reduceMul, Nat.reduceEqDiff, Nat.reduceLT, Nat.reduceLeDiff, Int.reduceAdd, Int.reduceMul, Int.reduceSub, Int.reduceNeg, Int.reduceToNat, Int.reduceLT, Int.reduceLE, Int.reduceEq, ↓reduceIte, List.reverse_cons, Option.toList, List.cons_append, List.nil_append, vI_inj, vL_inj, vO_inj, rI, rL, rO, rV, mI_sQ, mL_sQ, mK_sQ, mS_sQ, mQ_s1, mQ_s2, iL_and, iL_or, iL_xor, iL_shl, iL_ushr, iR_and, iR_or, iR_xor, iR_shl, iR_shr, iR_ushr, iR_cmp, yc0, tlX8_requires, tkX8_requires, o_aload, o_getR, o_goto, o_ic, o_ifeq, o_ifne, o_iload, o_zald, o_zret]
        try simp +contextual (disch := omega) only [impF, impT, and_true, true_and, implies_true, not_false_eq_true, not_true_eq_false]
        simp [b01, hb]
    · have hb1 : rB (aR A r) = 1 := by omega
      refine z_run1 tsX8_requires [] 20 ?_
      simp (maxSteps := 1000000) -implicitDefEqProofs +contextual (disch := omega) only [z_wp_t, z_wp_u, ↓pI_e, ↓pL_e, ↓pO_e, ↓pR_e, ↓p1_I, ↓p1_O, z_gl, z_st1, z_st2, z_nl_I, z_nl_O, z_nl_J, z_nl_L, if_true, if_false, ite_true, ite_false, true_and, and_true, List.mem_cons, List.not_mem_nil, or_false, false_or, or_self, List.length_cons, List.length_nil, InR_t, InL_t, z_ix_t, mI_s1, mI_s2, ↓brT, ↓brF, ↓brT', ↓brF', mL_sI, mR_sI, mK_sI, mS_sI, mI_sL, mL_s1, mL_s2, mR_sL, mK_sL, mS_sL, mI_sR, mL_sR, mR_s1, mR_s2, mK_sR, mS_sR, mA_s1, mA_s2, mL_sA, mR_sA, mK_sA, mS_sA, ix_n, ix_a, ix_m, ix_s, z_sw, z_stop, forall_const, true_implies, false_implies, imp_self, implies_true, not_true_eq_false, not_false_eq_true, ne_eq, eq_self, Option.some.injEq, reduceCtorEq, Nat.reduceAdd, Nat.reduceSub, Nat.reduceMul, Nat.reduceEqDiff, Nat.reduceLT, Nat.reduceLeDiff, Int.reduceAdd, Int.reduceMul, Int.reduceSub, Int.reduceNeg, Int.reduceToNat, Int.reduceLT, Int.reduceLE, Int.reduceEq, ↓reduceIte, List.reverse_cons, Option.toList, List.cons_append, List.nil_append, vI_inj, vL_inj, vO_inj, rI, rL, rO, rV, mI_sQ, mL_sQ, mK_sQ, mS_sQ, mQ_s1, mQ_s2, iL_and, iL_or, iL_xor, iL_shl, iL_ushr, iR_and, iR_or, iR_xor, iR_shl, iR_shr, iR_ushr, iR_cmp, yc0, tlX8_requires, tkX8_requires, o_aload, o_getR, o_goto, o_ic, o_ifeq, o_ifne, o_iload, o_zald, o_zret, hb1]
      try simp +contextual (disch := omega) only [impF, impT, and_true, true_and, implies_true, not_false_eq_true, not_true_eq_false]
      simp [b01, hb1]
theorem ld_z (l : Launch) (G : zG) (h : zH) (QQ : Option zV → zH → Prop) (P : Nat) (hP : P < 8) (A : zA) (t : Nat → Nat) (hL : LdI h A t) (hA : AOK A) (ht : ∀ q, q < 8 → t q ≤ 4) (lv : Nat) (hlv : 4 ≤ lv) (K : ∀ g : Nat → Int, (∀ q, q < aC A → g q = (fr0 A t P q : Int)) → z_X l G mtX8_leads lv 0 0 (QQ) 0 0 (sA h 106 g) 50 [vR 93, vI (P : Int), vI 1, vJ, vJ] []) : ∀ (d r : Nat) (g : Nat → Int), r + d = aC A → (∀ q, q < r → g q = (fr0 A t P q : Int)) → z_X l G mtX8_leads lv 0 0 (QQ) 0 0 (sA h 106 g) 2 [vR 93, vI (P : Int), vI r, vJ, vJ] [] := by
  have hS := hL.1
  have h20 := hA.2.2.2.2.1
  have c0 := hS.1
  have c94 := hS.2.1.1
  have s0 := hS.2.2.2.1.1
  have e49 := hL.2.1.2.2.2.2.1
  have k106 := hS.2.2.1.2.2.2.2.1
  have s18 := hS.2.2.2.2.2.2.2.2.1
  intro d
  induction d with
  | zero =>
    intro r g hr hg
    obtain rfl : r = aC A := by omega
    have hnx := K g hg
    clear K hg ht
    refine z_run1 tsX8_leads [50] 20 ?_
    simp (maxSteps := 1000000) -implicitDefEqProofs +contextual (disch := omega) only [z_wp_t, z_wp_u, ↓pI_e, ↓pL_e, ↓pO_e, ↓pR_e, ↓p1_I, ↓p1_O, z_gl, z_st1, z_st2, z_nl_I, z_nl_O, z_nl_J, z_nl_L, if_true, if_false, ite_true, ite_false, true_and, and_true, List.mem_cons, List.not_mem_nil, or_false, false_or, or_self, List.length_cons, List.length_nil, InR_t, InL_t, z_ix_t, mI_s1, mI_s2, ↓brT, ↓brF, ↓brT', ↓brF', mL_sI, mR_sI, mK_sI, mS_sI, mI_sL, mL_s1, mL_s2, mR_sL, mK_sL, mS_sL, mI_sR, mL_sR, mR_s1, mR_s2, mK_sR, mS_sR, mA_s1, mA_s2, mL_sA, mR_sA, mK_sA, mS_sA, ix_n, ix_a, ix_m, ix_s, z_sw, z_stop, forall_const, true_implies, false_implies, imp_self, implies_true, not_true_eq_false, not_false_eq_true, ne_eq, eq_self, Option.some.injEq, reduceCtorEq, Nat.reduceAdd, Nat.reduceSub, Nat.reduceMul, Nat.reduceEqDiff, Nat.reduceLT, Nat.reduceLeDiff, Int.reduceAdd, Int.reduceMul, Int.reduceSub, Int.reduceNeg, Int.reduceToNat, Int.reduceLT, Int.reduceLE, Int.reduceEq, ↓reduceIte, List.reverse_cons, Option.toList, List.cons_append, List.nil_append, vI_inj, vL_inj, vO_inj, rI, rL, rO, rV, mI_sQ, mL_sQ, mK_sQ, mS_sQ, mQ_s1, mQ_s2, iL_and, iL_or, iL_xor, iL_shl, iL_ushr, iR_and, iR_or, iR_xor, iR_shl, iR_shr, iR_ushr, iR_cmp, yc0, tlX8_leads, tkX8_leads, o_aload, o_getR, o_goto, o_iadd, o_iald, o_iast, o_ic, o_icge, o_icgt, o_icne, o_ifeq, o_ifne, o_iinc, o_iload, o_istore, o_vret, c0, c94, s0, e49]
    try simp +contextual (disch := omega) only [impF, impT, and_true, true_and, implies_true, not_false_eq_true, not_true_eq_false]
    exact hnx
  | succ d ih =>
    intro r g hr hg
    have hrc : r < aC A := by omega
    obtain ⟨u0, u1, u2, -⟩ := (hL.s g).2.1.2.2.2.2.2 r hrc
    have hra := hA.2.2.2.2.2.2 r hrc
    unfold RuA at hra
    have hq := sm_requires l G (sA h 106 g) r A t (hL.s g) hA ht hrc 3 (by omega)
    have of2 := sm_of' l G (sA h 106 g) r 2 (rT (aR A r)) (hL.s g).1 (by omega) (by omega) u2 1 (by omega)
    rw [show ((2 : Nat) : Int) = 2 from rfl] at of2
    have hnx := fun (z : Nat) (hz : z = fr0 A t P r) => ih (r + 1) (up g r (z : Int)) (by omega) (fun q hq => by
      by_cases e : q = r
      · rw [e, up_s, hz]
      · rw [up_n _ _ e]; exact hg q (by omega))
    clear K ih hg ht
    refine z_run1 tsX8_leads [] 20 ?_
    simp (maxSteps := 1000000) -implicitDefEqProofs +contextual (disch := omega) only [z_wp_t, z_wp_u, ↓pI_e, ↓pL_e, ↓pO_e, ↓pR_e, ↓p1_I, ↓p1_O, z_gl, z_st1, z_st2, z_nl_I, z_nl_O, z_nl_J, z_nl_L, if_true, if_false, ite_true, ite_false, true_and, and_true, List.mem_cons, List.not_mem_nil, or_false, false_or, or_self, List.length_cons, List.length_nil, InR_t, InL_t, z_ix_t, mI_s1, mI_s2, ↓brT, ↓brF, ↓brT', ↓brF', mL_sI, mR_sI, mK_sI, mS_sI, mI_sL, mL_s1, mL_s2, mR_sL, mK_sL, mS_sL, mI_sR, mL_sR, mR_s1, mR_s2, mK_sR, mS_sR, mA_s1, mA_s2, mL_sA, mR_sA, mK_sA, mS_sA, ix_n, ix_a, ix_m, ix_s, z_sw, z_stop, forall_const, true_implies, false_implies, imp_self, implies_true, not_true_eq_false, not_false_eq_true, ne_eq, eq_self, Option.some.injEq, reduceCtorEq, Nat.reduceAdd, Nat.reduceSub, Nat.reduceMul, Nat.reduceEqDiff, Nat.reduceLT, Nat.reduceLeDiff, Int.reduceAdd, Int.reduceMul, Int.reduceSub, Int.reduceNeg, Int.reduceToNat, Int.reduceLT, Int.reduceLE, Int.reduceEq, ↓reduceIte, List.reverse_cons, Option.toList, List.cons_append, List.nil_append, vI_inj, vL_inj, vO_inj, rI, rL, rO, rV, mI_sQ, mL_sQ, mK_sQ, mS_sQ, mQ_s1, mQ_s2, iL_and, iL_or, iL_xor, iL_shl, iL_ushr, iR_and, iR_or, iR_xor, iR_shl, iR_shr, iR_ushr, iR_cmp, yc0, tlX8_leads, tkX8_leads, o_aload, o_getR, o_goto, o_iadd, o_iald, o_iast, o_ic, o_icge, o_icgt, o_icne, o_ifeq, o_ifne, o_iinc, o_iload, o_istore, o_vret, c0, c94, s0, e49, s18]
    try simp +contextual (disch := omega) only [impF, impT, and_true, true_and, implies_true, not_false_eq_true, not_true_eq_false]
    refine x_callV (by decide +kernel) cv_X8_197 (hq) c0 (by omega) rfl (by omega) (by omega) rfl (Nat.le_of_ble_eq_true rfl) ?_
    rintro r' h' ⟨rfl, hE⟩
    subst h'
    cases hrq : req A t r
    · simp only [b01, Bool.false_eq_true, if_false]
      have hnx := hnx 0 (by unfold fr0; simp [hrq])
      rw [show ((0 : Nat) : Int) = 0 from rfl] at hnx
      refine z_run1 tsX8_leads [2] 20 ?_
      simp (maxSteps := 1000000) -implicitDefEqProofs +contextual (disch := omega) only [z_wp_t, z_wp_u, ↓pI_e, ↓pL_e, ↓pO_e, ↓pR_e, ↓p1_I, ↓p1_O, z_gl, z_st1, z_st2, z_nl_I, z_nl_O, z_nl_J, z_nl_L, if_true, if_false, ite_true, ite_false, true_and, and_true, List.mem_cons, List.not_mem_nil, or_false, false_or, or_self, List.length_cons, List.length_nil, InR_t, InL_t, z_ix_t, mI_s1, mI_s2, ↓brT, ↓brF, ↓brT', ↓brF', mL_sI, mR_sI, mK_sI, mS_sI, mI_sL, mL_s1, mL_s2, mR_sL, mK_sL, mS_sL, mI_sR, mL_sR, mR_s1, mR_s2, mK_sR, mS_sR, mA_s1, mA_s2, mL_sA, mR_sA, mK_sA, mS_sA, ix_n, ix_a, ix_m, ix_s, z_sw, z_stop, forall_const, true_implies, false_implies, imp_self, implies_true, not_true_eq_false, not_false_eq_true, ne_eq, eq_self, Option.some.injEq, reduceCtorEq, Nat.reduceAdd, Nat.reduceSub, Nat.reduceMul, Nat.reduceEqDiff, Nat.reduceLT, Nat.reduceLeDiff, Int.reduceAdd, Int.reduceMul, Int.reduceSub, Int.reduceNeg, Int.reduceToNat, Int.reduceLT, Int.reduceLE, Int.reduceEq, ↓reduceIte, List.reverse_cons, Option.toList, List.cons_append, List.nil_append, vI_inj, vL_inj, vO_inj, rI, rL, rO, rV, mI_sQ, mL_sQ, mK_sQ, mS_sQ, mQ_s1, mQ_s2, iL_and, iL_or, iL_xor, iL_shl, iL_ushr, iR_and, iR_or, iR_xor, iR_shl, iR_shr, iR_ushr, iR_cmp, yc0, tlX8_leads, tkX8_leads, o_aload, o_getR, o_goto, o_iadd, o_iald, o_iast, o_ic, o_icge, o_icgt, o_icne, o_ifeq, o_ifne, o_iinc, o_iload, o_istore, o_vret, c0, k106, sI_sA]
      try simp +contextual (disch := omega) only [impF, impT, and_true, true_and, implies_true, not_false_eq_true, not_true_eq_false]
      exact hnx
    · simp only [b01, if_true]
      refine z_run1 tsX8_leads [] 20 ?_
      simp (maxSteps := 1000000) -implicitDefEqProofs +contextual (disch := omega) only [z_wp_t, z_wp_u, ↓pI_e, ↓pL_e, ↓pO_e, ↓pR_e, ↓p1_I, ↓p1_O, z_gl, z_st1, z_st2, z_nl_I, z_nl_O, z_nl_J, z_nl_L, if_true, if_false, ite_true, ite_false, true_and, and_true, List.mem_cons, List.not_mem_nil, or_false, false_or, or_self, List.length_cons, List.length_nil, InR_t, InL_t, z_ix_t, mI_s1, mI_s2, ↓brT, ↓brF, ↓brT', ↓brF', mL_sI, mR_sI, mK_sI, mS_sI, mI_sL, mL_s1, mL_s2, mR_sL, mK_sL, mS_sL, mI_sR, mL_sR, mR_s1, mR_s2, mK_sR, mS_sR, mA_s1, mA_s2, mL_sA, mR_sA, mK_sA, mS_sA, ix_n, ix_a, ix_m, ix_s, z_sw, z_stop, forall_const, true_implies, false_implies, imp_self, implies_true, not_true_eq_false, not_false_eq_true, ne_eq, eq_self, Option.some.injEq, reduceCtorEq, Nat.reduceAdd, Nat.reduceSub, Nat.reduceMul, Nat.reduceEqDiff, Nat.reduceLT, Nat.reduceLeDiff, Int.reduceAdd, Int.reduceMul, Int.reduceSub, Int.reduceNeg, Int.reduceToNat, Int.reduceLT, Int.reduceLE, Int.reduceEq, ↓reduceIte, List.reverse_cons, Option.toList, List.cons_append, List.nil_append, vI_inj, vL_inj, vO_inj, rI, rL, rO, rV, mI_sQ, mL_sQ, mK_sQ, mS_sQ, mQ_s1, mQ_s2, iL_and, iL_or, iL_xor, iL_shl, iL_ushr, iR_and, iR_or, iR_xor, iR_shl, iR_shr, iR_ushr, iR_cmp, yc0, tlX8_leads, tkX8_leads, o_aload, o_getR, o_goto, o_iadd, o_iald, o_iast, o_ic, o_icge, o_icgt, o_icne, o_ifeq, o_ifne, o_iinc, o_iload, o_istore, o_vret]
      try simp +contextual (disch := omega) only [impF, impT, and_true, true_and, implies_true, not_false_eq_true, not_true_eq_false]
      refine x_callV (by decide +kernel) cv_X8_138 (of2) c0 (by omega) rfl (by omega) (by omega) rfl (Nat.le_of_ble_eq_true rfl) ?_
      rintro r' h' ⟨rfl, hE⟩
      subst h'
      by_cases hT : rT (aR A r) = (P : Int)
      · have hnx := hnx 1 (by unfold fr0; simp [hrq, hT])
        rw [show ((1 : Nat) : Int) = 1 from rfl] at hnx
        refine z_run1 tsX8_leads [2] 20 ?_
        simp (maxSteps := 1000000) -implicitDefEqProofs +contextual (disch := omega) only [z_wp_t, z_wp_u, ↓pI_e, ↓pL_e, ↓pO_e, ↓pR_e, ↓p1_I, ↓p1_O, z_gl, z_st1, z_st2, z_nl_I, z_nl_O, z_nl_J, z_nl_L, if_true, if_false, ite_true, ite_false, true_and, and_true, List.mem_cons, List.not_mem_nil, or_false, false_or, or_self, List.length_cons, List.length_nil, InR_t, InL_t, z_ix_t, mI_s1, mI_s2, ↓brT, ↓brF, ↓brT', ↓brF', mL_sI, mR_sI, mK_sI, mS_sI, mI_sL, mL_s1, mL_s2, mR_sL, mK_sL, mS_sL, mI_sR, mL_sR, mR_s1, mR_s2, mK_sR, mS_sR, mA_s1, mA_s2, mL_sA, mR_sA, mK_sA, mS_sA, ix_n, ix_a, ix_m, ix_s, z_sw, z_stop, forall_const, true_implies, false_implies, imp_self, implies_true, not_true_eq_false, not_false_eq_true, ne_eq, eq_self, Option.some.injEq, reduceCtorEq, Nat.reduceAdd, Nat.reduceSub, Nat.reduceMul, Nat.reduceEqDiff, Nat.reduceLT, Nat.reduceLeDiff, Int.reduceAdd, Int.reduceMul, Int.reduceSub, Int.reduceNeg, Int.reduceToNat, Int.reduceLT, Int.reduceLE, Int.reduceEq, ↓reduceIte, List.reverse_cons, Option.toList, List.cons_append, List.nil_append, vI_inj, vL_inj, vO_inj, rI, rL, rO, rV, mI_sQ, mL_sQ, mK_sQ, mS_sQ, mQ_s1, mQ_s2, iL_and, iL_or, iL_xor, iL_shl, iL_ushr, iR_and, iR_or, iR_xor, iR_shl, iR_shr, iR_ushr, iR_cmp, yc0, tlX8_leads, tkX8_leads, o_aload, o_getR, o_goto, o_iadd, o_iald, o_iast, o_ic, o_icge, o_icgt, o_icne, o_ifeq, o_ifne, o_iinc, o_iload, o_istore, o_vret, c0, k106, sI_sA, hT]
        try simp +contextual (disch := omega) only [impF, impT, and_true, true_and, implies_true, not_false_eq_true, not_true_eq_false]
        exact hnx
      · have hnx := hnx 0 (by unfold fr0; simp [hT])
        rw [show ((0 : Nat) : Int) = 0 from rfl] at hnx
        refine z_run1 tsX8_leads [2] 20 ?_
        simp (maxSteps := 1000000) -implicitDefEqProofs +contextual (disch := omega) only [z_wp_t, z_wp_u, ↓pI_e, ↓pL_e, ↓pO_e, ↓pR_e, ↓p1_I, ↓p1_O, z_gl, z_st1, z_st2, z_nl_I, z_nl_O, z_nl_J, z_nl_L, if_true, if_false, ite_true, ite_false, true_and, and_true, List.mem_cons, List.not_mem_nil, or_false, false_or, or_self, List.length_cons, List.length_nil, InR_t, InL_t, z_ix_t, mI_s1, mI_s2, ↓brT, ↓brF, ↓brT', ↓brF', mL_sI, mR_sI, mK_sI, mS_sI, mI_sL, mL_s1, mL_s2, mR_sL, mK_sL, mS_sL, mI_sR, mL_sR, mR_s1, mR_s2, mK_sR, mS_sR, mA_s1, mA_s2, mL_sA, mR_sA, mK_sA, mS_sA, ix_n, ix_a, ix_m, ix_s, z_sw, z_stop, forall_const, true_implies, false_implies, imp_self, implies_true, not_true_eq_false, not_false_eq_true, ne_eq, eq_self, Option.some.injEq, reduceCtorEq, Nat.reduceAdd, Nat.reduceSub, Nat.reduceMul, Nat.reduceEqDiff, Nat.reduceLT, Nat.reduceLeDiff, Int.reduceAdd, Int.reduceMul, Int.reduceSub, Int.reduceNeg, Int.reduceToNat, Int.reduceLT, Int.reduceLE, Int.reduceEq, ↓reduceIte, List.reverse_cons, Option.toList, List.cons_append, List.nil_append, vI_inj, vL_inj, vO_inj, rI, rL, rO, rV, mI_sQ, mL_sQ, mK_sQ, mS_sQ, mQ_s1, mQ_s2, iL_and, iL_or, iL_xor, iL_shl, iL_ushr, iR_and, iR_or, iR_xor, iR_shl, iR_shr, iR_ushr, iR_cmp, yc0, tlX8_leads, tkX8_leads, o_aload, o_getR, o_goto, o_iadd, o_iald, o_iast, o_ic, o_icge, o_icgt, o_icne, o_ifeq, o_ifne, o_iinc, o_iload, o_istore, o_vret, c0, k106, sI_sA]
        try simp +contextual (disch := omega) only [impF, impT, and_true, true_and, implies_true, not_false_eq_true, not_true_eq_false]
        exact hnx
theorem frN_eq {A : zA} {t : Nat → Nat} {f : Nat → Nat} {n m : Nat} (hn : 1 ≤ n) : frN A t f n m = n ↔ f m = n := by
  unfold frN
  split
  · omega
  · exact Iff.rfl
theorem frN_le {A : zA} {t : Nat → Nat} {f : Nat → Nat} {n m : Nat} (hn : n ≤ 20) (h : f m ≤ 21) : frN A t f n m ≤ 21 := by
  unfold frN
  split
  · omega
  · exact h
/-- a rule that has its number: nothing more -/
theorem ld_ex (l : Launch) (G : zG) (h : zH) (QQ : Option zV → zH → Prop) (P : Nat) (A : zA) (t : Nat → Nat) (n r : Nat) (hn : 1 ≤ n ∧ n ≤ 20) (hrc : r < aC A) (hL : LdI h A t) (hA : AOK A) (lv : Nat) (hlv : 4 ≤ lv) (m : Nat) (g : Nat → Int) (z : Nat) (hm : m ≤ aC A) (hz : g r = (z : Int)) (hz2 : 1 ≤ z ∧ z ≤ 21) (K : z_X l G mtX8_leads lv 0 0 (QQ) 0 0 (sA h 106 g) 63 [vR 93, vI (P : Int), vI (n : Int), vI ((r + 1 : Nat) : Int), vJ] []) : z_X l G mtX8_leads lv 0 0 (QQ) 0 0 (sA h 106 g) 77 [vR 93, vI (P : Int), vI (n : Int), vI (r : Int), vI (m : Int)] [] := by
  have hS := hL.1
  have h20 := hA.2.2.2.2.1
  have c0 := hS.1
  have c94 := hS.2.1.1
  have s0 := hS.2.2.2.1.1
  have e49 := hL.2.1.2.2.2.2.1
  have k106 := hS.2.2.1.2.2.2.2.1
  have s18 := hS.2.2.2.2.2.2.2.2.1
  by_cases q : m < aC A
  · refine z_run1 tsX8_leads [63] 20 ?_
    simp (maxSteps := 1000000) -implicitDefEqProofs +contextual (disch := omega) only [z_wp_t, z_wp_u, ↓pI_e, ↓pL_e, ↓pO_e, ↓pR_e, ↓p1_I, ↓p1_O, z_gl, z_st1, z_st2, z_nl_I, z_nl_O, z_nl_J, z_nl_L, if_true, if_false, ite_true, ite_false, true_and, and_true, List.mem_cons, List.not_mem_nil, or_false, false_or, or_self, List.length_cons, List.length_nil, InR_t, InL_t, z_ix_t, mI_s1, mI_s2, ↓brT, ↓brF, ↓brT', ↓brF', mL_sI, mR_sI, mK_sI, mS_sI, mI_sL, mL_s1, mL_s2, mR_sL, mK_sL, mS_sL, mI_sR, mL_sR, mR_s1, mR_s2, mK_sR, mS_sR, mA_s1, mA_s2, mL_sA, mR_sA, mK_sA, mS_sA, ix_n, ix_a, ix_m, ix_s, z_sw, z_stop, forall_const, true_implies, false_implies, imp_self, implies_true, not_true_eq_false, not_false_eq_true, ne_eq, eq_self, Option.some.injEq, reduceCtorEq, Nat.reduceAdd, Nat.reduceSub, Nat.reduceMul, Nat.reduceEqDiff, Nat.reduceLT, Nat.reduceLeDiff, Int.reduceAdd, Int.reduceMul, Int.reduceSub, Int.reduceNeg, Int.reduceToNat, Int.reduceLT, Int.reduceLE, Int.reduceEq, ↓reduceIte, List.reverse_cons, Option.toList, List.cons_append, List.nil_append, vI_inj, vL_inj, vO_inj, rI, rL, rO, rV, mI_sQ, mL_sQ, mK_sQ, mS_sQ, mQ_s1, mQ_s2, iL_and, iL_or, iL_xor, iL_shl, iL_ushr, iR_and, iR_or, iR_xor, iR_shl, iR_shr, iR_ushr, iR_cmp, yc0, tlX8_leads, tkX8_leads, o_aload, o_getR, o_goto, o_iadd, o_iald, o_iast, o_ic, o_icge, o_icgt, o_icne, o_ifeq, o_ifne, o_iinc, o_iload, o_istore, o_vret, c0, c94, s0, e49, k106, s18, hz]
    try simp +contextual (disch := omega) only [impF, impT, and_true, true_and, implies_true, not_false_eq_true, not_true_eq_false]
    refine x_wk [vR 93, vI (P : Int), vI (n : Int), vI ((r + 1 : Nat) : Int), vJ] (by simp [z_wk]) ?_
    exact K
  · refine z_run1 tsX8_leads [63] 20 ?_
    simp (maxSteps := 1000000) -implicitDefEqProofs +contextual (disch := omega) only [z_wp_t, z_wp_u, ↓pI_e, ↓pL_e, ↓pO_e, ↓pR_e, ↓p1_I, ↓p1_O, z_gl, z_st1, z_st2, z_nl_I, z_nl_O, z_nl_J, z_nl_L, if_true, if_false, ite_true, ite_false, true_and, and_true, List.mem_cons, List.not_mem_nil, or_false, false_or, or_self, List.length_cons, List.length_nil, InR_t, InL_t, z_ix_t, mI_s1, mI_s2, ↓brT, ↓brF, ↓brT', ↓brF', mL_sI, mR_sI, mK_sI, mS_sI, mI_sL, mL_s1, mL_s2, mR_sL, mK_sL, mS_sL, mI_sR, mL_sR, mR_s1, mR_s2, mK_sR, mS_sR, mA_s1, mA_s2, mL_sA, mR_sA, mK_sA, mS_sA, ix_n, ix_a, ix_m, ix_s, z_sw, z_stop, forall_const, true_implies, false_implies, imp_self, implies_true, not_true_eq_false, not_false_eq_true, ne_eq, eq_self, Option.some.injEq, reduceCtorEq, Nat.reduceAdd, Nat.reduceSub, Nat.reduceMul, Nat.reduceEqDiff, Nat.reduceLT, Nat.reduceLeDiff, Int.reduceAdd, Int.reduceMul, Int.reduceSub, Int.reduceNeg, Int.reduceToNat, Int.reduceLT, Int.reduceLE, Int.reduceEq, ↓reduceIte, List.reverse_cons, Option.toList, List.cons_append, List.nil_append, vI_inj, vL_inj, vO_inj, rI, rL, rO, rV, mI_sQ, mL_sQ, mK_sQ, mS_sQ, mQ_s1, mQ_s2, iL_and, iL_or, iL_xor, iL_shl, iL_ushr, iR_and, iR_or, iR_xor, iR_shl, iR_shr, iR_ushr, iR_cmp, yc0, tlX8_leads, tkX8_leads, o_aload, o_getR, o_goto, o_iadd, o_iald, o_iast, o_ic, o_icge, o_icgt, o_icne, o_ifeq, o_ifne, o_iinc, o_iload, o_istore, o_vret, c0, c94, s0, e49]
    try simp +contextual (disch := omega) only [impF, impT, and_true, true_and, implies_true, not_false_eq_true, not_true_eq_false]
    refine x_wk [vR 93, vI (P : Int), vI (n : Int), vI ((r + 1 : Nat) : Int), vJ] (by simp [z_wk]) ?_
    exact K
/-- a rule, through those that may follow it -/
theorem ld_in (l : Launch) (G : zG) (h : zH) (QQ : Option zV → zH → Prop) (P : Nat) (A : zA) (t : Nat → Nat) (f : Nat → Nat) (n r : Nat) (hn : 1 ≤ n ∧ n ≤ 20) (hrc : r < aC A) (hrq : req A t r = true) (hf0 : f r = 0) (hfb : ∀ q, f q ≤ 21) (hL : LdI h A t) (hA : AOK A) (ht : ∀ q, q < 8 → t q ≤ 4) (lv : Nat) (hlv : 4 ≤ lv) (K : ∀ g : Nat → Int, (∀ q, q < aC A → g q = ((if q < r + 1 then frN A t f n q else f q : Nat) : Int)) → z_X l G mtX8_leads lv 0 0 (QQ) 0 0 (sA h 106 g) 63 [vR 93, vI (P : Int), vI (n : Int), vI ((r + 1 : Nat) : Int), vJ] []) : ∀ (d m : Nat) (g : Nat → Int), m + d = aC A → g r = 0 → (∀ q, q < aC A → q ≠ r → g q = ((if q < r then frN A t f n q else f q : Nat) : Int)) → nxB A f n r m = false → z_X l G mtX8_leads lv 0 0 (QQ) 0 0 (sA h 106 g) 77 [vR 93, vI (P : Int), vI (n : Int), vI (r : Int), vI (m : Int)] [] := by
  have hS := hL.1
  have h20 := hA.2.2.2.2.1
  have c0 := hS.1
  have c94 := hS.2.1.1
  have s0 := hS.2.2.2.1.1
  have e49 := hL.2.1.2.2.2.2.1
  have k106 := hS.2.2.1.2.2.2.2.1
  have s18 := hS.2.2.2.2.2.2.2.2.1
  intro d
  induction d with
  | zero =>
    intro m g hm h0 hg hx
    obtain rfl : m = aC A := by omega
    have hnx := K g (fun q hq => by
      by_cases e : q = r
      · rw [e, h0, if_pos (by omega)]
        unfold frN
        rw [if_neg (fun w => by rw [hx] at w; exact absurd w.2.2 (by simp)), hf0]
        rfl
      · rw [hg q hq e]
        by_cases w : q < r
        · rw [if_pos w, if_pos (by omega)]
        · rw [if_neg w, if_neg (by omega)])
    clear K hg ht
    refine z_run1 tsX8_leads [63] 20 ?_
    simp (maxSteps := 1000000) -implicitDefEqProofs +contextual (disch := omega) only [z_wp_t, z_wp_u, ↓pI_e, ↓pL_e, ↓pO_e, ↓pR_e, ↓p1_I, ↓p1_O, z_gl, z_st1, z_st2, z_nl_I, z_nl_O, z_nl_J, z_nl_L, if_true, if_false, ite_true, ite_false, true_and, and_true, List.mem_cons, List.not_mem_nil, or_false, false_or, or_self, List.length_cons, List.length_nil, InR_t, InL_t, z_ix_t, mI_s1, mI_s2, ↓brT, ↓brF, ↓brT', ↓brF', mL_sI, mR_sI, mK_sI, mS_sI, mI_sL, mL_s1, mL_s2, mR_sL, mK_sL, mS_sL, mI_sR, mL_sR, mR_s1, mR_s2, mK_sR, mS_sR, mA_s1, mA_s2, mL_sA, mR_sA, mK_sA, mS_sA, ix_n, ix_a, ix_m, ix_s, z_sw, z_stop, forall_const, true_implies, false_implies, imp_self, implies_true, not_true_eq_false, not_false_eq_true, ne_eq, eq_self, Option.some.injEq, reduceCtorEq, Nat.reduceAdd, Nat.reduceSub, Nat.reduceMul, Nat.reduceEqDiff, Nat.reduceLT, Nat.reduceLeDiff, Int.reduceAdd, Int.reduceMul, Int.reduceSub, Int.reduceNeg, Int.reduceToNat, Int.reduceLT, Int.reduceLE, Int.reduceEq, ↓reduceIte, List.reverse_cons, Option.toList, List.cons_append, List.nil_append, vI_inj, vL_inj, vO_inj, rI, rL, rO, rV, mI_sQ, mL_sQ, mK_sQ, mS_sQ, mQ_s1, mQ_s2, iL_and, iL_or, iL_xor, iL_shl, iL_ushr, iR_and, iR_or, iR_xor, iR_shl, iR_shr, iR_ushr, iR_cmp, yc0, tlX8_leads, tkX8_leads, o_aload, o_getR, o_goto, o_iadd, o_iald, o_iast, o_ic, o_icge, o_icgt, o_icne, o_ifeq, o_ifne, o_iinc, o_iload, o_istore, o_vret, c0, c94, s0, e49]
    try simp +contextual (disch := omega) only [impF, impT, and_true, true_and, implies_true, not_false_eq_true, not_true_eq_false]
    refine x_wk [vR 93, vI (P : Int), vI (n : Int), vI ((r + 1 : Nat) : Int), vJ] (by simp [z_wk]) ?_
    exact hnx
  | succ d ih =>
    intro m g hm h0 hg hx
    have hmc : m < aC A := by omega
    obtain ⟨u0, u1, u2, -⟩ := (hL.s g).2.1.2.2.2.2.2 r hrc
    obtain ⟨y0, y1, y2, -⟩ := (hL.s g).2.1.2.2.2.2.2 m hmc
    have hra := hA.2.2.2.2.2.2 r hrc
    have hrm := hA.2.2.2.2.2.2 m hmc
    unfold RuA at hra hrm
    have hq := sm_requires l G (sA h 106 g) r A t (hL.s g) hA ht hrc 3 (by omega)
    rw [hrq, show b01 true = 1 from rfl] at hq
    have of2 := sm_of' l G (sA h 106 g) r 2 (rT (aR A r)) (hL.s g).1 (by omega) (by omega) u2 1 (by omega)
    rw [show ((2 : Nat) : Int) = 2 from rfl] at of2
    have of1 := sm_of' l G (sA h 106 g) m 1 (rC (aR A m)) (hL.s g).1 (by omega) (by omega) y1 1 (by omega)
    rw [show ((1 : Nat) : Int) = 1 from rfl] at of1
    obtain ⟨x, hx1, hx2, hx3⟩ : ∃ x : Nat, g m = (x : Int) ∧ x ≤ 21 ∧ (x = n ↔ f m = n) := by
      by_cases e : m = r
      · exact ⟨0, by rw [e, h0]; rfl, by omega, by rw [e, hf0]⟩
      · by_cases w : m < r
        · exact ⟨_, by rw [hg m hmc e, if_pos w], frN_le hn.2 (hfb m), frN_eq hn.1⟩
        · exact ⟨_, by rw [hg m hmc e, if_neg w], hfb m, Iff.rfl⟩
    have hz : ∀ (m2 : Nat), m2 = m + 1 → nxB A f n r m2 = false → z_X l G mtX8_leads lv 0 0 (QQ) 0 0 (sA h 106 (up g r 0)) 77 [vR 93, vI (P : Int), vI (n : Int), vI (r : Int), vI (m2 : Int)] [] := by
      intro m2 e hx2
      subst e
      exact ih (m + 1) (up g r 0) (by omega) (up_s _ _ _) (fun q hq e => by rw [up_n _ _ e]; exact hg q hq e) hx2
    have hy : (f m = n ∧ rC (aR A m) = rT (aR A r)) → z_X l G mtX8_leads lv 0 0 (QQ) 0 0 (sA h 106 (up g r ((n + 1 : Nat) : Int))) 77 [vR 93, vI (P : Int), vI (n : Int), vI (r : Int), vI ((m + 1 : Nat) : Int)] [] := by
      intro e
      refine ld_ex l G h QQ P A t n r hn hrc hL hA lv hlv (m + 1) _ (n + 1) (by omega) (up_s _ _ _) (by omega) (K _ (fun q hq => ?_))
      by_cases w : q = r
      · rw [w, up_s, if_pos (by omega)]
        unfold frN
        rw [if_pos ⟨hf0, hrq, nxB_iff.mpr ⟨m, hmc, e⟩⟩]
      · rw [up_n _ _ w, hg q hq w]
        by_cases w : q < r
        · rw [if_pos w, if_pos (by omega)]
        · rw [if_neg w, if_neg (by omega)]
    have hz := hz (m + 1) rfl
    simp only [nxB, hx, Bool.false_or] at hz
    clear K ih hg ht hfb
    refine z_run1 tsX8_leads [] 20 ?_
    simp (maxSteps := 1000000) -implicitDefEqProofs +contextual (disch := omega) only [z_wp_t, z_wp_u, ↓pI_e, ↓pL_e, ↓pO_e, ↓pR_e, ↓p1_I, ↓p1_O, z_gl, z_st1, z_st2, z_nl_I, z_nl_O, z_nl_J, z_nl_L, if_true, if_false, ite_true, ite_false, true_and, and_true, List.mem_cons, List.not_mem_nil, or_false, false_or, or_self, List.length_cons, List.length_nil, InR_t, InL_t, z_ix_t, mI_s1, mI_s2, ↓brT, ↓brF, ↓brT', ↓brF', mL_sI, mR_sI, mK_sI, mS_sI, mI_sL, mL_s1, mL_s2, mR_sL, mK_sL, mS_sL, mI_sR, mL_sR, mR_s1, mR_s2, mK_sR, mS_sR, mA_s1, mA_s2, mL_sA, mR_sA, mK_sA, mS_sA, ix_n, ix_a, ix_m, ix_s, z_sw, z_stop, forall_const, true_implies, false_implies, imp_self, implies_true, not_true_eq_false, not_false_eq_true, ne_eq, eq_self, Option.some.injEq, reduceCtorEq, Nat.reduceAdd, Nat.reduceSub, Nat.reduceMul, Nat.reduceEqDiff, Nat.reduceLT, Nat.reduceLeDiff, Int.reduceAdd, Int.reduceMul, Int.reduceSub, Int.reduceNeg, Int.reduceToNat, Int.reduceLT, Int.reduceLE, Int.reduceEq, ↓reduceIte, List.reverse_cons, Option.toList, List.cons_append, List.nil_append, vI_inj, vL_inj, vO_inj, rI, rL, rO, rV, mI_sQ, mL_sQ, mK_sQ, mS_sQ, mQ_s1, mQ_s2, iL_and, iL_or, iL_xor, iL_shl, iL_ushr, iR_and, iR_or, iR_xor, iR_shl, iR_shr, iR_ushr, iR_cmp, yc0, tlX8_leads, tkX8_leads, o_aload, o_getR, o_goto, o_iadd, o_iald, o_iast, o_ic, o_icge, o_icgt, o_icne, o_ifeq, o_ifne, o_iinc, o_iload, o_istore, o_vret, c0, c94, s0, e49, k106, s18, h0]
    try simp +contextual (disch := omega) only [impF, impT, and_true, true_and, implies_true, not_false_eq_true, not_true_eq_false]
    refine x_callV (by decide +kernel) cv_X8_197 (hq) c0 (by omega) rfl (by omega) (by omega) rfl (Nat.le_of_ble_eq_true rfl) ?_
    rintro r' h' ⟨rfl, hE⟩
    subst h'
    by_cases hfm : f m = n
    · have hxn := hx3.mpr hfm
      subst hxn
      refine z_run1 tsX8_leads [] 20 ?_
      simp (maxSteps := 1000000) -implicitDefEqProofs +contextual (disch := omega) only [z_wp_t, z_wp_u, ↓pI_e, ↓pL_e, ↓pO_e, ↓pR_e, ↓p1_I, ↓p1_O, z_gl, z_st1, z_st2, z_nl_I, z_nl_O, z_nl_J, z_nl_L, if_true, if_false, ite_true, ite_false, true_and, and_true, List.mem_cons, List.not_mem_nil, or_false, false_or, or_self, List.length_cons, List.length_nil, InR_t, InL_t, z_ix_t, mI_s1, mI_s2, ↓brT, ↓brF, ↓brT', ↓brF', mL_sI, mR_sI, mK_sI, mS_sI, mI_sL, mL_s1, mL_s2, mR_sL, mK_sL, mS_sL, mI_sR, mL_sR, mR_s1, mR_s2, mK_sR, mS_sR, mA_s1, mA_s2, mL_sA, mR_sA, mK_sA, mS_sA, ix_n, ix_a, ix_m, ix_s, z_sw, z_stop, forall_const, true_implies, false_implies, imp_self, implies_true, not_true_eq_false, not_false_eq_true, ne_eq, eq_self, Option.some.injEq, reduceCtorEq, Nat.reduceAdd, Nat.reduceSub, Nat.reduceMul, Nat.reduceEqDiff, Nat.reduceLT, Nat.reduceLeDiff, Int.reduceAdd, Int.reduceMul, Int.reduceSub, Int.reduceNeg, Int.reduceToNat, Int.reduceLT, Int.reduceLE, Int.reduceEq, ↓reduceIte, List.reverse_cons, Option.toList, List.cons_append, List.nil_append, vI_inj, vL_inj, vO_inj, rI, rL, rO, rV, mI_sQ, mL_sQ, mK_sQ, mS_sQ, mQ_s1, mQ_s2, iL_and, iL_or, iL_xor, iL_shl, iL_ushr, iR_and, iR_or, iR_xor, iR_shl, iR_shr, iR_ushr, iR_cmp, yc0, tlX8_leads, tkX8_leads, o_aload, o_getR, o_goto, o_iadd, o_iald, o_iast, o_ic, o_icge, o_icgt, o_icne, o_ifeq, o_ifne, o_iinc, o_iload, o_istore, o_vret, c0, k106, s18, hx1]
      try simp +contextual (disch := omega) only [impF, impT, and_true, true_and, implies_true, not_false_eq_true, not_true_eq_false]
      refine x_callV (by decide +kernel) cv_X8_138 (of1) c0 (by omega) rfl (by omega) (by omega) rfl (Nat.le_of_ble_eq_true rfl) ?_
      rintro r' h' ⟨rfl, hE⟩
      subst h'
      refine z_run1 tsX8_leads [] 20 ?_
      simp (maxSteps := 1000000) -implicitDefEqProofs +contextual (disch := omega) only [z_wp_t, z_wp_u, ↓pI_e, ↓pL_e, ↓pO_e, ↓pR_e, ↓p1_I, ↓p1_O, z_gl, z_st1, z_st2, z_nl_I, z_nl_O, z_nl_J, z_nl_L, if_true, if_false, ite_true, ite_false, true_and, and_true, List.mem_cons, List.not_mem_nil, or_false, false_or, or_self, List.length_cons, List.length_nil, InR_t, InL_t, z_ix_t, mI_s1, mI_s2, ↓brT, ↓brF, ↓brT', ↓brF', mL_sI, mR_sI, mK_sI, mS_sI, mI_sL, mL_s1, mL_s2, mR_sL, mK_sL, mS_sL, mI_sR, mL_sR, mR_s1, mR_s2, mK_sR, mS_sR, mA_s1, mA_s2, mL_sA, mR_sA, mK_sA, mS_sA, ix_n, ix_a, ix_m, ix_s, z_sw, z_stop, forall_const, true_implies, false_implies, imp_self, implies_true, not_true_eq_false, not_false_eq_true, ne_eq, eq_self, Option.some.injEq, reduceCtorEq, Nat.reduceAdd, Nat.reduceSub, Nat.reduceMul, Nat.reduceEqDiff, Nat.reduceLT, Nat.reduceLeDiff, Int.reduceAdd, Int.reduceMul, Int.reduceSub, Int.reduceNeg, Int.reduceToNat, Int.reduceLT, Int.reduceLE, Int.reduceEq, ↓reduceIte, List.reverse_cons, Option.toList, List.cons_append, List.nil_append, vI_inj, vL_inj, vO_inj, rI, rL, rO, rV, mI_sQ, mL_sQ, mK_sQ, mS_sQ, mQ_s1, mQ_s2, iL_and, iL_or, iL_xor, iL_shl, iL_ushr, iR_and, iR_or, iR_xor, iR_shl, iR_shr, iR_ushr, iR_cmp, yc0, tlX8_leads, tkX8_leads, o_aload, o_getR, o_goto, o_iadd, o_iald, o_iast, o_ic, o_icge, o_icgt, o_icne, o_ifeq, o_ifne, o_iinc, o_iload, o_istore, o_vret]
      try simp +contextual (disch := omega) only [impF, impT, and_true, true_and, implies_true, not_false_eq_true, not_true_eq_false]
      refine x_callV (by decide +kernel) cv_X8_138 (of2) c0 (by omega) rfl (by omega) (by omega) rfl (Nat.le_of_ble_eq_true rfl) ?_
      rintro r' h' ⟨rfl, hE⟩
      subst h'
      by_cases hcr : rC (aR A m) = rT (aR A r)
      · have hy := hy ⟨hfm, hcr⟩
        clear hz
        refine z_run1 tsX8_leads [77] 20 ?_
        simp (maxSteps := 1000000) -implicitDefEqProofs +contextual (disch := omega) only [z_wp_t, z_wp_u, ↓pI_e, ↓pL_e, ↓pO_e, ↓pR_e, ↓p1_I, ↓p1_O, z_gl, z_st1, z_st2, z_nl_I, z_nl_O, z_nl_J, z_nl_L, if_true, if_false, ite_true, ite_false, true_and, and_true, List.mem_cons, List.not_mem_nil, or_false, false_or, or_self, List.length_cons, List.length_nil, InR_t, InL_t, z_ix_t, mI_s1, mI_s2, ↓brT, ↓brF, ↓brT', ↓brF', mL_sI, mR_sI, mK_sI, mS_sI, mI_sL, mL_s1, mL_s2, mR_sL, mK_sL, mS_sL, mI_sR, mL_sR, mR_s1, mR_s2, mK_sR, mS_sR, mA_s1, mA_s2, mL_sA, mR_sA, mK_sA, mS_sA, ix_n, ix_a, ix_m, ix_s, z_sw, z_stop, forall_const, true_implies, false_implies, imp_self, implies_true, not_true_eq_false, not_false_eq_true, ne_eq, eq_self, Option.some.injEq, reduceCtorEq, Nat.reduceAdd, Nat.reduceSub, Nat.reduceMul, Nat.reduceEqDiff, Nat.reduceLT, Nat.reduceLeDiff, Int.reduceAdd, Int.reduceMul, Int.reduceSub, Int.reduceNeg, Int.reduceToNat, Int.reduceLT, Int.reduceLE, Int.reduceEq, ↓reduceIte, List.reverse_cons, Option.toList, List.cons_append, List.nil_append, vI_inj, vL_inj, vO_inj, rI, rL, rO, rV, mI_sQ, mL_sQ, mK_sQ, mS_sQ, mQ_s1, mQ_s2, iL_and, iL_or, iL_xor, iL_shl, iL_ushr, iR_and, iR_or, iR_xor, iR_shl, iR_shr, iR_ushr, iR_cmp, yc0, tlX8_leads, tkX8_leads, o_aload, o_getR, o_goto, o_iadd, o_iald, o_iast, o_ic, o_icge, o_icgt, o_icne, o_ifeq, o_ifne, o_iinc, o_iload, o_istore, o_vret, c0, k106, sI_sA, hcr]
        try simp +contextual (disch := omega) only [impF, impT, and_true, true_and, implies_true, not_false_eq_true, not_true_eq_false]
        exact hy
      · have hz := hz (by simp [hcr])
        clear hy
        refine z_run1 tsX8_leads [77] 20 ?_
        simp (maxSteps := 1000000) -implicitDefEqProofs +contextual (disch := omega) only [z_wp_t, z_wp_u, ↓pI_e, ↓pL_e, ↓pO_e, ↓pR_e, ↓p1_I, ↓p1_O, z_gl, z_st1, z_st2, z_nl_I, z_nl_O, z_nl_J, z_nl_L, if_true, if_false, ite_true, ite_false, true_and, and_true, List.mem_cons, List.not_mem_nil, or_false, false_or, or_self, List.length_cons, List.length_nil, InR_t, InL_t, z_ix_t, mI_s1, mI_s2, ↓brT, ↓brF, ↓brT', ↓brF', mL_sI, mR_sI, mK_sI, mS_sI, mI_sL, mL_s1, mL_s2, mR_sL, mK_sL, mS_sL, mI_sR, mL_sR, mR_s1, mR_s2, mK_sR, mS_sR, mA_s1, mA_s2, mL_sA, mR_sA, mK_sA, mS_sA, ix_n, ix_a, ix_m, ix_s, z_sw, z_stop, forall_const, true_implies, false_implies, imp_self, implies_true, not_true_eq_false, not_false_eq_true, ne_eq, eq_self, Option.some.injEq, reduceCtorEq, Nat.reduceAdd, Nat.reduceSub, Nat.reduceMul, Nat.reduceEqDiff, Nat.reduceLT, Nat.reduceLeDiff, Int.reduceAdd, Int.reduceMul, Int.reduceSub, Int.reduceNeg, Int.reduceToNat, Int.reduceLT, Int.reduceLE, Int.reduceEq, ↓reduceIte, List.reverse_cons, Option.toList, List.cons_append, List.nil_append, vI_inj, vL_inj, vO_inj, rI, rL, rO, rV, mI_sQ, mL_sQ, mK_sQ, mS_sQ, mQ_s1, mQ_s2, iL_and, iL_or, iL_xor, iL_shl, iL_ushr, iR_and, iR_or, iR_xor, iR_shl, iR_shr, iR_ushr, iR_cmp, yc0, tlX8_leads, tkX8_leads, o_aload, o_getR, o_goto, o_iadd, o_iald, o_iast, o_ic, o_icge, o_icgt, o_icne, o_ifeq, o_ifne, o_iinc, o_iload, o_istore, o_vret, c0, k106, sI_sA]
        try simp +contextual (disch := omega) only [impF, impT, and_true, true_and, implies_true, not_false_eq_true, not_true_eq_false]
        exact hz
    · have hz := hz (by simp [hfm])
      have hxn : x ≠ n := fun e => hfm (hx3.mp e)
      clear hy
      refine z_run1 tsX8_leads [77] 20 ?_
      simp (maxSteps := 1000000) -implicitDefEqProofs +contextual (disch := omega) only [z_wp_t, z_wp_u, ↓pI_e, ↓pL_e, ↓pO_e, ↓pR_e, ↓p1_I, ↓p1_O, z_gl, z_st1, z_st2, z_nl_I, z_nl_O, z_nl_J, z_nl_L, if_true, if_false, ite_true, ite_false, true_and, and_true, List.mem_cons, List.not_mem_nil, or_false, false_or, or_self, List.length_cons, List.length_nil, InR_t, InL_t, z_ix_t, mI_s1, mI_s2, ↓brT, ↓brF, ↓brT', ↓brF', mL_sI, mR_sI, mK_sI, mS_sI, mI_sL, mL_s1, mL_s2, mR_sL, mK_sL, mS_sL, mI_sR, mL_sR, mR_s1, mR_s2, mK_sR, mS_sR, mA_s1, mA_s2, mL_sA, mR_sA, mK_sA, mS_sA, ix_n, ix_a, ix_m, ix_s, z_sw, z_stop, forall_const, true_implies, false_implies, imp_self, implies_true, not_true_eq_false, not_false_eq_true, ne_eq, eq_self, Option.some.injEq, reduceCtorEq, Nat.reduceAdd, Nat.reduceSub, Nat.reduceMul, Nat.reduceEqDiff, Nat.reduceLT, Nat.reduceLeDiff, Int.reduceAdd, Int.reduceMul, Int.reduceSub, Int.reduceNeg, Int.reduceToNat, Int.reduceLT, Int.reduceLE, Int.reduceEq, ↓reduceIte, List.reverse_cons, Option.toList, List.cons_append, List.nil_append, vI_inj, vL_inj, vO_inj, rI, rL, rO, rV, mI_sQ, mL_sQ, mK_sQ, mS_sQ, mQ_s1, mQ_s2, iL_and, iL_or, iL_xor, iL_shl, iL_ushr, iR_and, iR_or, iR_xor, iR_shl, iR_shr, iR_ushr, iR_cmp, yc0, tlX8_leads, tkX8_leads, o_aload, o_getR, o_goto, o_iadd, o_iald, o_iast, o_ic, o_icge, o_icgt, o_icne, o_ifeq, o_ifne, o_iinc, o_iload, o_istore, o_vret, c0, k106, s18, hx1, sI_sA]
      try simp +contextual (disch := omega) only [impF, impT, and_true, true_and, implies_true, not_false_eq_true, not_true_eq_false]
      exact hz
/-- a round over all rules -/
theorem ld_rd (l : Launch) (G : zG) (h : zH) (QQ : Option zV → zH → Prop) (P : Nat) (A : zA) (t : Nat → Nat) (f : Nat → Nat) (n : Nat) (hn : 1 ≤ n ∧ n ≤ 20) (hfb : ∀ q, f q ≤ 21) (hL : LdI h A t) (hA : AOK A) (ht : ∀ q, q < 8 → t q ≤ 4) (lv : Nat) (hlv : 4 ≤ lv) (K : ∀ g : Nat → Int, (∀ q, q < aC A → g q = (frN A t f n q : Int)) → z_X l G mtX8_leads lv 0 0 (QQ) 0 0 (sA h 106 g) 50 [vR 93, vI (P : Int), vI ((n + 1 : Nat) : Int), vJ, vJ] []) : ∀ (d r : Nat) (g : Nat → Int), r + d = aC A → (∀ q, q < aC A → g q = ((if q < r then frN A t f n q else f q : Nat) : Int)) → z_X l G mtX8_leads lv 0 0 (QQ) 0 0 (sA h 106 g) 63 [vR 93, vI (P : Int), vI (n : Int), vI (r : Int), vJ] [] := by
  have hS := hL.1
  have h20 := hA.2.2.2.2.1
  have c0 := hS.1
  have c94 := hS.2.1.1
  have s0 := hS.2.2.2.1.1
  have e49 := hL.2.1.2.2.2.2.1
  have k106 := hS.2.2.1.2.2.2.2.1
  have s18 := hS.2.2.2.2.2.2.2.2.1
  intro d
  induction d with
  | zero =>
    intro r g hr hg
    obtain rfl : r = aC A := by omega
    have hnx := K g (fun q hq => by rw [hg q hq, if_pos hq])
    clear K hg ht hfb
    refine z_run1 tsX8_leads [50] 20 ?_
    simp (maxSteps := 1000000) -implicitDefEqProofs +contextual (disch := omega) only [z_wp_t, z_wp_u, ↓pI_e, ↓pL_e, ↓pO_e, ↓pR_e, ↓p1_I, ↓p1_O, z_gl, z_st1, z_st2, z_nl_I, z_nl_O, z_nl_J, z_nl_L, if_true, if_false, ite_true, ite_false, true_and, and_true, List.mem_cons, List.not_mem_nil, or_false, false_or, or_self, List.length_cons, List.length_nil, InR_t, InL_t, z_ix_t, mI_s1, mI_s2, ↓brT, ↓brF, ↓brT', ↓brF', mL_sI, mR_sI, mK_sI, mS_sI, mI_sL, mL_s1, mL_s2, mR_sL, mK_sL, mS_sL, mI_sR, mL_sR, mR_s1, mR_s2, mK_sR, mS_sR, mA_s1, mA_s2, mL_sA, mR_sA, mK_sA, mS_sA, ix_n, ix_a, ix_m, ix_s, z_sw, z_stop, forall_const, true_implies, false_implies, imp_self, implies_true, not_true_eq_false, not_false_eq_true, ne_eq, eq_self, Option.some.injEq, reduceCtorEq, Nat.reduceAdd, Nat.reduceSub, Nat.reduceMul, Nat.reduceEqDiff, Nat.reduceLT, Nat.reduceLeDiff, Int.reduceAdd, Int.reduceMul, Int.reduceSub, Int.reduceNeg, Int.reduceToNat, Int.reduceLT, Int.reduceLE, Int.reduceEq, ↓reduceIte, List.reverse_cons, Option.toList, List.cons_append, List.nil_append, vI_inj, vL_inj, vO_inj, rI, rL, rO, rV, mI_sQ, mL_sQ, mK_sQ, mS_sQ, mQ_s1, mQ_s2, iL_and, iL_or, iL_xor, iL_shl, iL_ushr, iR_and, iR_or, iR_xor, iR_shl, iR_shr, iR_ushr, iR_cmp, yc0, tlX8_leads, tkX8_leads, o_aload, o_getR, o_goto, o_iadd, o_iald, o_iast, o_ic, o_icge, o_icgt, o_icne, o_ifeq, o_ifne, o_iinc, o_iload, o_istore, o_vret, c0, c94, s0, e49]
    try simp +contextual (disch := omega) only [impF, impT, and_true, true_and, implies_true, not_false_eq_true, not_true_eq_false]
    refine x_wk [vR 93, vI (P : Int), vI ((n + 1 : Nat) : Int), vJ, vJ] (by simp [z_wk]) ?_
    exact hnx
  | succ d ih =>
    intro r g hr hg
    have hrc : r < aC A := by omega
    have hnx := fun (g2 : Nat → Int) (hg2 : ∀ q, q < aC A → g2 q = ((if q < r + 1 then frN A t f n q else f q : Nat) : Int)) => ih (r + 1) g2 (by omega) hg2
    have her := hg r hrc
    rw [if_neg (Nat.lt_irrefl r)] at her
    have hkeep : frN A t f n r = f r → ∀ q, q < aC A → g q = ((if q < r + 1 then frN A t f n q else f q : Nat) : Int) := fun e q hq => by
      rw [hg q hq]
      by_cases w : q < r
      · rw [if_pos w, if_pos (by omega)]
      · rw [if_neg w]
        by_cases w2 : q = r
        · rw [w2, if_pos (by omega), e]
        · rw [if_neg (by omega)]
    have hst : z_X l G mtX8_leads lv 0 0 (QQ) 0 0 (sA h 106 g) 77 [vR 93, vI (P : Int), vI (n : Int), vI (r : Int), vI ((0 : Nat) : Int)] [] := by
      by_cases hf0 : f r = 0
      · cases hrq : req A t r
        · have hnx := hnx g (hkeep (by unfold frN; rw [if_neg (fun w => by rw [hrq] at w; exact absurd w.2.1 (by simp))]))
          have hq := sm_requires l G (sA h 106 g) r A t (hL.s g) hA ht hrc 3 (by omega)
          rw [hrq, show b01 false = 0 from rfl] at hq
          rw [hf0] at her
          rw [show ((0 : Nat) : Int) = 0 from rfl] at her ⊢
          clear K ih hg ht hfb hkeep
          refine z_run1 tsX8_leads [] 20 ?_
          simp (maxSteps := 1000000) -implicitDefEqProofs +contextual (disch := omega) only [z_wp_t, z_wp_u, ↓pI_e, ↓pL_e, ↓pO_e, ↓pR_e, ↓p1_I, ↓p1_O, z_gl, z_st1, z_st2, z_nl_I, z_nl_O, z_nl_J, z_nl_L, if_true, if_false, ite_true, ite_false, true_and, and_true, List.mem_cons, List.not_mem_nil, or_false, false_or, or_self, List.length_cons, List.length_nil, InR_t, InL_t, z_ix_t, mI_s1, mI_s2, ↓brT, ↓brF, ↓brT', ↓brF', mL_sI, mR_sI, mK_sI, mS_sI, mI_sL, mL_s1, mL_s2, mR_sL, mK_sL, mS_sL, mI_sR, mL_sR, mR_s1, mR_s2, mK_sR, mS_sR, mA_s1, mA_s2, mL_sA, mR_sA, mK_sA, mS_sA, ix_n, ix_a, ix_m, ix_s, z_sw, z_stop, forall_const, true_implies, false_implies, imp_self, implies_true, not_true_eq_false, not_false_eq_true, ne_eq, eq_self, Option.some.injEq, reduceCtorEq, Nat.reduceAdd, Nat.reduceSub, Nat.reduceMul, Nat.reduceEqDiff, Nat.reduceLT, Nat.reduceLeDiff, Int.reduceAdd, Int.reduceMul, Int.reduceSub, Int.reduceNeg, Int.reduceToNat, Int.reduceLT, Int.reduceLE, Int.reduceEq, ↓reduceIte, List.reverse_cons, Option.toList, List.cons_append, List.nil_append, vI_inj, vL_inj, vO_inj, rI, rL, rO, rV, mI_sQ, mL_sQ, mK_sQ, mS_sQ, mQ_s1, mQ_s2, iL_and, iL_or, iL_xor, iL_shl, iL_ushr, iR_and, iR_or, iR_xor, iR_shl, iR_shr, iR_ushr, iR_cmp, yc0, tlX8_leads, tkX8_leads, o_aload, o_getR, o_goto, o_iadd, o_iald, o_iast, o_ic, o_icge, o_icgt, o_icne, o_ifeq, o_ifne, o_iinc, o_iload, o_istore, o_vret, c0, c94, s0, e49, k106, s18, her]
          try simp +contextual (disch := omega) only [impF, impT, and_true, true_and, implies_true, not_false_eq_true, not_true_eq_false]
          refine x_callV (by decide +kernel) cv_X8_197 (hq) c0 (by omega) rfl (by omega) (by omega) rfl (Nat.le_of_ble_eq_true rfl) ?_
          rintro r' h' ⟨rfl, hE⟩
          subst h'
          refine z_run1 tsX8_leads [63] 20 ?_
          simp (maxSteps := 1000000) -implicitDefEqProofs +contextual (disch := omega) only [z_wp_t, z_wp_u, ↓pI_e, ↓pL_e, ↓pO_e, ↓pR_e, ↓p1_I, ↓p1_O, z_gl, z_st1, z_st2, z_nl_I, z_nl_O, z_nl_J, z_nl_L, if_true, if_false, ite_true, ite_false, true_and, and_true, List.mem_cons, List.not_mem_nil, or_false, false_or, or_self, List.length_cons, List.length_nil, InR_t, InL_t, z_ix_t, mI_s1, mI_s2, ↓brT, ↓brF, ↓brT', ↓brF', mL_sI, mR_sI, mK_sI, mS_sI, mI_sL, mL_s1, mL_s2, mR_sL, mK_sL, mS_sL, mI_sR, mL_sR, mR_s1, mR_s2, mK_sR, mS_sR, mA_s1, mA_s2, mL_sA, mR_sA, mK_sA, mS_sA, ix_n, ix_a, ix_m, ix_s, z_sw, z_stop, forall_const, true_implies, false_implies, imp_self, implies_true, not_true_eq_false, not_false_eq_true, ne_eq, eq_self, Option.some.injEq, reduceCtorEq, Nat.reduceAdd, Nat.reduceSub, Nat.reduceMul, Nat.reduceEqDiff, Nat.reduceLT, Nat.reduceLeDiff, Int.reduceAdd, Int.reduceMul, Int.reduceSub, Int.reduceNeg, Int.reduceToNat, Int.reduceLT, Int.reduceLE, Int.reduceEq, ↓reduceIte, List.reverse_cons, Option.toList, List.cons_append, List.nil_append, vI_inj, vL_inj, vO_inj, rI, rL, rO, rV, mI_sQ, mL_sQ, mK_sQ, mS_sQ, mQ_s1, mQ_s2, iL_and, iL_or, iL_xor, iL_shl, iL_ushr, iR_and, iR_or, iR_xor, iR_shl, iR_shr, iR_ushr, iR_cmp, yc0, tlX8_leads, tkX8_leads, o_aload, o_getR, o_goto, o_iadd, o_iald, o_iast, o_ic, o_icge, o_icgt, o_icne, o_ifeq, o_ifne, o_iinc, o_iload, o_istore, o_vret]
          try simp +contextual (disch := omega) only [impF, impT, and_true, true_and, implies_true, not_false_eq_true, not_true_eq_false]
          refine x_wk [vR 93, vI (P : Int), vI (n : Int), vI ((r + 1 : Nat) : Int), vJ] (by simp [z_wk]) ?_
          exact hnx
        · rw [hf0] at her
          exact ld_in l G h QQ P A t f n r hn hrc hrq hf0 hfb hL hA ht lv hlv hnx (aC A) 0 g (by omega) her (fun q hq _ => hg q hq) rfl
      · have hnx := hnx g (hkeep (by unfold frN; rw [if_neg (fun w => hf0 w.1)]))
        exact ld_ex l G h QQ P A t n r hn hrc hL hA lv hlv 0 g (f r) (by omega) her ⟨by omega, hfb r⟩ hnx
    clear K ih hg ht hfb hkeep hnx
    refine z_run1 tsX8_leads [77] 20 ?_
    simp (maxSteps := 1000000) -implicitDefEqProofs +contextual (disch := omega) only [z_wp_t, z_wp_u, ↓pI_e, ↓pL_e, ↓pO_e, ↓pR_e, ↓p1_I, ↓p1_O, z_gl, z_st1, z_st2, z_nl_I, z_nl_O, z_nl_J, z_nl_L, if_true, if_false, ite_true, ite_false, true_and, and_true, List.mem_cons, List.not_mem_nil, or_false, false_or, or_self, List.length_cons, List.length_nil, InR_t, InL_t, z_ix_t, mI_s1, mI_s2, ↓brT, ↓brF, ↓brT', ↓brF', mL_sI, mR_sI, mK_sI, mS_sI, mI_sL, mL_s1, mL_s2, mR_sL, mK_sL, mS_sL, mI_sR, mL_sR, mR_s1, mR_s2, mK_sR, mS_sR, mA_s1, mA_s2, mL_sA, mR_sA, mK_sA, mS_sA, ix_n, ix_a, ix_m, ix_s, z_sw, z_stop, forall_const, true_implies, false_implies, imp_self, implies_true, not_true_eq_false, not_false_eq_true, ne_eq, eq_self, Option.some.injEq, reduceCtorEq, Nat.reduceAdd, Nat.reduceSub, Nat.reduceMul, Nat.reduceEqDiff, Nat.reduceLT, Nat.reduceLeDiff, Int.reduceAdd, Int.reduceMul, Int.reduceSub, Int.reduceNeg, Int.reduceToNat, Int.reduceLT, Int.reduceLE, Int.reduceEq, ↓reduceIte, List.reverse_cons, Option.toList, List.cons_append, List.nil_append, vI_inj, vL_inj, vO_inj, rI, rL, rO, rV, mI_sQ, mL_sQ, mK_sQ, mS_sQ, mQ_s1, mQ_s2, iL_and, iL_or, iL_xor, iL_shl, iL_ushr, iR_and, iR_or, iR_xor, iR_shl, iR_shr, iR_ushr, iR_cmp, yc0, tlX8_leads, tkX8_leads, o_aload, o_getR, o_goto, o_iadd, o_iald, o_iast, o_ic, o_icge, o_icgt, o_icne, o_ifeq, o_ifne, o_iinc, o_iload, o_istore, o_vret, c0, c94, s0, e49]
    try simp +contextual (disch := omega) only [impF, impT, and_true, true_and, implies_true, not_false_eq_true, not_true_eq_false]
    exact hst
theorem frI_le {A : zA} {t : Nat → Nat} {P : Nat} (h : aC A ≤ 20) {k : Nat} (hk : k ≤ aC A) (r : Nat) : frI A t P k r ≤ 21 := by
  by_cases q : frI A t P k r = 0
  · omega
  · have := ((frJ_I A t P k r).2 q).1
    omega
theorem sA_fr {h : zH} (g : Nat → Int) : Fr (fun c => c = 106) h (sA h 106 g) := Fr.sA _ _ _ _ rfl
set_option maxHeartbeats 4000000 in
theorem sm_leads (l : Launch) (G : zG) (h : zH) (P : Nat) (hP : P < 8) (A : zA) (t : Nat → Nat) (hL : LdI h A t) (hA : AOK A) (ht : ∀ q, q < 8 → t q ≤ 4) (lv : Nat) (hlv : 4 ≤ lv) : z_Sp l G mtX8_leads lv 0 0 [vR 93, vI ((P : Nat) : Int)] (h) (fun r h' => r = none ∧ ∃ g : Nat → Int, h' = sA h 106 g ∧ ∀ q, q < aC A → g q = (frI A t P (aC A) q : Int)) := by
  refine x_enter [vR 93, vI (P : Int), vJ, vJ, vJ] (by decide +kernel) (by omega) rfl (Nat.le_of_ble_eq_true rfl) ?_
  generalize hQ : (fun (r : Option zV) (h' : zH) => r = none ∧ ∃ g : Nat → Int, h' = sA h 106 g ∧ ∀ q, q < aC A → g q = (frI A t P (aC A) q : Int)) = QQ
  have hS := hL.1
  have h20 := hA.2.2.2.2.1
  have c0 := hS.1
  have c94 := hS.2.1.1
  have s0 := hS.2.2.2.1.1
  have e49 := hL.2.1.2.2.2.2.1
  have hlo : ∀ (d k : Nat) (g : Nat → Int), k + d = aC A → (∀ q, q < aC A → g q = (frI A t P k q : Int)) → z_X l G mtX8_leads lv 0 0 (QQ) 0 0 (sA h 106 g) 50 [vR 93, vI (P : Int), vI ((k + 1 : Nat) : Int), vJ, vJ] [] := by
    intro d
    induction d with
    | zero =>
      intro k g hk hg
      obtain rfl : k = aC A := by omega
      refine z_run1 tsX8_leads [] 20 ?_
      simp (maxSteps := 1000000) -implicitDefEqProofs +contextual (disch := omega) only [z_wp_t, z_wp_u, ↓pI_e, ↓pL_e, ↓pO_e, ↓pR_e, ↓p1_I, ↓p1_O, z_gl, z_st1, z_st2, z_nl_I, z_nl_O, z_nl_J, z_nl_L, if_true, if_false, ite_true, ite_false, true_and, and_true, List.mem_cons, List.not_mem_nil, or_false, false_or, or_self, List.length_cons, List.length_nil, InR_t, InL_t, z_ix_t, mI_s1, mI_s2, ↓brT, ↓brF, ↓brT', ↓brF', mL_sI, mR_sI, mK_sI, mS_sI, mI_sL, mL_s1, mL_s2, mR_sL, mK_sL, mS_sL, mI_sR, mL_sR, mR_s1, mR_s2, mK_sR, mS_sR, mA_s1, mA_s2, mL_sA, mR_sA, mK_sA, mS_sA, ix_n, ix_a, ix_m, ix_s, z_sw, z_stop, forall_const, true_implies, false_implies, imp_self, implies_true, not_true_eq_false, not_false_eq_true, ne_eq, eq_self, Option.some.injEq, reduceCtorEq, Nat.reduceAdd, Nat.reduceSub, Nat.reduceMul, Nat.reduceEqDiff, Nat.reduceLT, Nat.reduceLeDiff, Int.reduceAdd, Int.reduceMul, Int.reduceSub, Int.reduceNeg, Int.reduceToNat, Int.reduceLT, Int.reduceLE, Int.reduceEq, ↓reduceIte, List.reverse_cons, Option.toList, List.cons_append, List.nil_append, vI_inj, vL_inj, vO_inj, rI, rL, rO, rV, mI_sQ, mL_sQ, mK_sQ, mS_sQ, mQ_s1, mQ_s2, iL_and, iL_or, iL_xor, iL_shl, iL_ushr, iR_and, iR_or, iR_xor, iR_shl, iR_shr, iR_ushr, iR_cmp, yc0, tlX8_leads, tkX8_leads, o_aload, o_getR, o_goto, o_iadd, o_iald, o_iast, o_ic, o_icge, o_icgt, o_icne, o_ifeq, o_ifne, o_iinc, o_iload, o_istore, o_vret, c0, c94, s0, e49]
      try simp +contextual (disch := omega) only [impF, impT, and_true, true_and, implies_true, not_false_eq_true, not_true_eq_false]
      rw [← hQ]
      exact ⟨rfl, g, rfl, hg⟩
    | succ d ih =>
      intro k g hk hg
      have hnx := ld_rd l G h QQ P A t (frI A t P k) (k + 1) (by omega) (frI_le h20 (by omega)) hL hA ht lv hlv (fun g2 hg2 => ih (k + 1) g2 (by omega) hg2) (aC A) 0 g (by omega) (fun q hq => by rw [if_neg (by omega)]; exact hg q hq)
      clear ih hg ht hQ
      refine z_run1 tsX8_leads [63] 20 ?_
      simp (maxSteps := 1000000) -implicitDefEqProofs +contextual (disch := omega) only [z_wp_t, z_wp_u, ↓pI_e, ↓pL_e, ↓pO_e, ↓pR_e, ↓p1_I, ↓p1_O, z_gl, z_st1, z_st2, z_nl_I, z_nl_O, z_nl_J, z_nl_L, if_true, if_false, ite_true, ite_false, true_and, and_true, List.mem_cons, List.not_mem_nil, or_false, false_or, or_self, List.length_cons, List.length_nil, InR_t, InL_t, z_ix_t, mI_s1, mI_s2, ↓brT, ↓brF, ↓brT', ↓brF', mL_sI, mR_sI, mK_sI, mS_sI, mI_sL, mL_s1, mL_s2, mR_sL, mK_sL, mS_sL, mI_sR, mL_sR, mR_s1, mR_s2, mK_sR, mS_sR, mA_s1, mA_s2, mL_sA, mR_sA, mK_sA, mS_sA, ix_n, ix_a, ix_m, ix_s, z_sw, z_stop, forall_const, true_implies, false_implies, imp_self, implies_true, not_true_eq_false, not_false_eq_true, ne_eq, eq_self, Option.some.injEq, reduceCtorEq, Nat.reduceAdd, Nat.reduceSub, Nat.reduceMul, Nat.reduceEqDiff, Nat.reduceLT, Nat.reduceLeDiff, Int.reduceAdd, Int.reduceMul, Int.reduceSub, Int.reduceNeg, Int.reduceToNat, Int.reduceLT, Int.reduceLE, Int.reduceEq, ↓reduceIte, List.reverse_cons, Option.toList, List.cons_append, List.nil_append, vI_inj, vL_inj, vO_inj, rI, rL, rO, rV, mI_sQ, mL_sQ, mK_sQ, mS_sQ, mQ_s1, mQ_s2, iL_and, iL_or, iL_xor, iL_shl, iL_ushr, iR_and, iR_or, iR_xor, iR_shl, iR_shr, iR_ushr, iR_cmp, yc0, tlX8_leads, tkX8_leads, o_aload, o_getR, o_goto, o_iadd, o_iald, o_iast, o_ic, o_icge, o_icgt, o_icne, o_ifeq, o_ifne, o_iinc, o_iload, o_istore, o_vret, c0, c94, s0, e49]
      try simp +contextual (disch := omega) only [impF, impT, and_true, true_and, implies_true, not_false_eq_true, not_true_eq_false]
      exact hnx
  have h0 := ld_z l G h QQ P hP A t hL hA ht lv hlv (fun g hg => hlo (aC A) 0 g (by omega) hg) (aC A) 0 (gI h 106) (by omega) (fun q hq => by omega)
  rw [sA_self] at h0
  clear hlo ht hQ
  refine z_run1 tsX8_leads [2] 20 ?_
  simp (maxSteps := 1000000) -implicitDefEqProofs +contextual (disch := omega) only [z_wp_t, z_wp_u, ↓pI_e, ↓pL_e, ↓pO_e, ↓pR_e, ↓p1_I, ↓p1_O, z_gl, z_st1, z_st2, z_nl_I, z_nl_O, z_nl_J, z_nl_L, if_true, if_false, ite_true, ite_false, true_and, and_true, List.mem_cons, List.not_mem_nil, or_false, false_or, or_self, List.length_cons, List.length_nil, InR_t, InL_t, z_ix_t, mI_s1, mI_s2, ↓brT, ↓brF, ↓brT', ↓brF', mL_sI, mR_sI, mK_sI, mS_sI, mI_sL, mL_s1, mL_s2, mR_sL, mK_sL, mS_sL, mI_sR, mL_sR, mR_s1, mR_s2, mK_sR, mS_sR, mA_s1, mA_s2, mL_sA, mR_sA, mK_sA, mS_sA, ix_n, ix_a, ix_m, ix_s, z_sw, z_stop, forall_const, true_implies, false_implies, imp_self, implies_true, not_true_eq_false, not_false_eq_true, ne_eq, eq_self, Option.some.injEq, reduceCtorEq, Nat.reduceAdd, Nat.reduceSub, Nat.reduceMul, Nat.reduceEqDiff, Nat.reduceLT, Nat.reduceLeDiff, Int.reduceAdd, Int.reduceMul, Int.reduceSub, Int.reduceNeg, Int.reduceToNat, Int.reduceLT, Int.reduceLE, Int.reduceEq, ↓reduceIte, List.reverse_cons, Option.toList, List.cons_append, List.nil_append, vI_inj, vL_inj, vO_inj, rI, rL, rO, rV, mI_sQ, mL_sQ, mK_sQ, mS_sQ, mQ_s1, mQ_s2, iL_and, iL_or, iL_xor, iL_shl, iL_ushr, iR_and, iR_or, iR_xor, iR_shl, iR_shr, iR_ushr, iR_cmp, yc0, tlX8_leads, tkX8_leads, o_aload, o_getR, o_goto, o_iadd, o_iald, o_iast, o_ic, o_icge, o_icgt, o_icne, o_ifeq, o_ifne, o_iinc, o_iload, o_istore, o_vret]
  try simp +contextual (disch := omega) only [impF, impT, and_true, true_and, implies_true, not_false_eq_true, not_true_eq_false]
  exact h0
set_option maxHeartbeats 4000000 in
theorem sm_first (l : Launch) (G : zG) (h : zH) (b : Int) (n : Nat) (A : zA) (F : Nat → Nat) (hS : ShM h) (hm : MA (gI h 94) A) (hA : AOK A) (hb : -1 ≤ b ∧ b ≤ 7) (hn : n ≤ 21) (hF : ∀ q, q < aC A → gI h 106 q = (F q : Int) ∧ F q ≤ 21) (lv : Nat) (hlv : 2 ≤ lv) : z_Sp l G mtX8_first lv 0 0 [vR 93, vI b, vI ((n : Nat) : Int)] (h) (rI (fsI A F b n) h) := by
  refine x_enter [vR 93, vI b, vI (n : Int), vJ] (by decide +kernel) (by omega) rfl (Nat.le_of_ble_eq_true rfl) ?_
  generalize hQ : rI (fsI A F b n) h = QQ
  have h20 := hA.2.2.2.2.1
  have c0 := hS.1
  have c94 := hS.2.1.1
  have s0 := hS.2.2.2.1.1
  have e49 := hm.2.2.2.2.1
  have k106 := hS.2.2.1.2.2.2.2.1
  have s18 := hS.2.2.2.2.2.2.2.2.1
  have hlo : ∀ (d r : Nat), r + d = aC A → fsI A F b n = fIx (fsF A F b n) 1 d r → z_X l G mtX8_first lv 0 0 (QQ) 0 0 (h) 2 [vR 93, vI b, vI (n : Int), vI r] [] := by
    intro d
    induction d with
    | zero =>
      intro r hr he
      obtain rfl : r = aC A := by omega
      refine z_run1 tsX8_first [] 20 ?_
      simp (maxSteps := 1000000) -implicitDefEqProofs +contextual (disch := omega) only [z_wp_t, z_wp_u, ↓pI_e, ↓pL_e, ↓pO_e, ↓pR_e, ↓p1_I, ↓p1_O, z_gl, z_st1, z_st2, z_nl_I, z_nl_O, z_nl_J, z_nl_L, if_true, if_false, ite_true, ite_false, true_and, and_true, List.mem_cons, List.not_mem_nil, or_false, false_or, or_self, List.length_cons, List.length_nil, InR_t, InL_t, z_ix_t, mI_s1, mI_s2, ↓brT, ↓brF, ↓brT', ↓brF', mL_sI, mR_sI, mK_sI, mS_sI, mI_sL, mL_s1, mL_s2, mR_sL, mK_sL, mS_sL, mI_sR, mL_sR, mR_s1, mR_s2, mK_sR, mS_sR, mA_s1, mA_s2, mL_sA, mR_sA, mK_sA, mS_sA, ix_n, ix_a, ix_m, ix_s, z_sw, z_stop, forall_const, true_implies, false_implies, imp_self, implies_true, not_true_eq_false, not_false_eq_true, ne_eq, eq_self, Option.some.injEq, reduceCtorEq, Nat.reduceAdd, Nat.reduceSub, Nat.reduceMul, Nat.reduceEqDiff, Nat.reduceLT, Nat.reduceLeDiff, Int.reduceAdd, Int.reduceMul, Int.reduceSub, Int.reduceNeg, Int.reduceToNat, Int.reduceLT, Int.reduceLE, Int.reduceEq, ↓reduceIte, List.reverse_cons, Option.toList, List.cons_append, List.nil_append, vI_inj, vL_inj, vO_inj, rI, rL, rO, rV, mI_sQ, mL_sQ, mK_sQ, mS_sQ, mQ_s1, mQ_s2, iL_and, iL_or, iL_xor, iL_shl, iL_ushr, iR_and, iR_or, iR_xor, iR_shl, iR_shr, iR_ushr, iR_cmp, yc0, tlX8_first, tkX8_first, o_aload, o_getR, o_goto, o_iald, o_ic, o_icge, o_icne, o_iinc, o_iload, o_iret, o_istore, c0, c94, s0, e49]
      try simp +contextual (disch := omega) only [impF, impT, and_true, true_and, implies_true, not_false_eq_true, not_true_eq_false]
      rw [← hQ, he]
      exact ⟨rfl, rfl⟩
    | succ d ih =>
      intro r hr he
      have hrc : r < aC A := by omega
      obtain ⟨e106, hFb⟩ := hF r hrc
      obtain ⟨u0, u1, -⟩ := hm.2.2.2.2.2 r hrc
      have hra := hA.2.2.2.2.2.2 r hrc
      unfold RuA at hra
      have of1 := sm_of' l G h r 1 (rC (aR A r)) hS (by omega) (by omega) u1 1 (by omega)
      rw [show ((1 : Nat) : Int) = 1 from rfl] at of1
      simp only [fIx] at he
      have hnx := fun (q : ¬ (F r = n ∧ rC (aR A r) = b)) => ih (r + 1) (by omega) (by rw [he, if_neg (by unfold fsF; rw [if_neg q]; omega)])
      clear ih hF
      by_cases q1 : F r = n
      · rw [q1] at e106
        refine z_run1 tsX8_first [] 20 ?_
        simp (maxSteps := 1000000) -implicitDefEqProofs +contextual (disch := omega) only [z_wp_t, z_wp_u, ↓pI_e, ↓pL_e, ↓pO_e, ↓pR_e, ↓p1_I, ↓p1_O, z_gl, z_st1, z_st2, z_nl_I, z_nl_O, z_nl_J, z_nl_L, if_true, if_false, ite_true, ite_false, true_and, and_true, List.mem_cons, List.not_mem_nil, or_false, false_or, or_self, List.length_cons, List.length_nil, InR_t, InL_t, z_ix_t, mI_s1, mI_s2, ↓brT, ↓brF, ↓brT', ↓brF', mL_sI, mR_sI, mK_sI, mS_sI, mI_sL, mL_s1, mL_s2, mR_sL, mK_sL, mS_sL, mI_sR, mL_sR, mR_s1, mR_s2, mK_sR, mS_sR, mA_s1, mA_s2, mL_sA, mR_sA, mK_sA, mS_sA, ix_n, ix_a, ix_m, ix_s, z_sw, z_stop, forall_const, true_implies, false_implies, imp_self, implies_true, not_true_eq_false, not_false_eq_true, ne_eq, eq_self, Option.some.injEq, reduceCtorEq, Nat.reduceAdd, Nat.reduceSub, Nat.reduceMul, Nat.reduceEqDiff, Nat.reduceLT, Nat.reduceLeDiff, Int.reduceAdd, Int.reduceMul, Int.reduceSub, Int.reduceNeg, Int.reduceToNat, Int.reduceLT, Int.reduceLE, Int.reduceEq, ↓reduceIte, List.reverse_cons, Option.toList, List.cons_append, List.nil_append, vI_inj, vL_inj, vO_inj, rI, rL, rO, rV, mI_sQ, mL_sQ, mK_sQ, mS_sQ, mQ_s1, mQ_s2, iL_and, iL_or, iL_xor, iL_shl, iL_ushr, iR_and, iR_or, iR_xor, iR_shl, iR_shr, iR_ushr, iR_cmp, yc0, tlX8_first, tkX8_first, o_aload, o_getR, o_goto, o_iald, o_ic, o_icge, o_icne, o_iinc, o_iload, o_iret, o_istore, c0, c94, s0, e49, k106, s18, e106]
        try simp +contextual (disch := omega) only [impF, impT, and_true, true_and, implies_true, not_false_eq_true, not_true_eq_false]
        refine x_callV (by decide +kernel) cv_X8_138 (of1) c0 (by omega) rfl (by omega) (by omega) rfl (Nat.le_of_ble_eq_true rfl) ?_
        rintro r' h' ⟨rfl, hE⟩
        subst h'
        by_cases q2 : rC (aR A r) = b
        · rw [if_pos (by unfold fsF; rw [if_pos ⟨q1, q2⟩])] at he
          clear hnx
          refine z_run1 tsX8_first [] 20 ?_
          simp (maxSteps := 1000000) -implicitDefEqProofs +contextual (disch := omega) only [z_wp_t, z_wp_u, ↓pI_e, ↓pL_e, ↓pO_e, ↓pR_e, ↓p1_I, ↓p1_O, z_gl, z_st1, z_st2, z_nl_I, z_nl_O, z_nl_J, z_nl_L, if_true, if_false, ite_true, ite_false, true_and, and_true, List.mem_cons, List.not_mem_nil, or_false, false_or, or_self, List.length_cons, List.length_nil, InR_t, InL_t, z_ix_t, mI_s1, mI_s2, ↓brT, ↓brF, ↓brT', ↓brF', mL_sI, mR_sI, mK_sI, mS_sI, mI_sL, mL_s1, mL_s2, mR_sL, mK_sL, mS_sL, mI_sR, mL_sR, mR_s1, mR_s2, mK_sR, mS_sR, mA_s1, mA_s2, mL_sA, mR_sA, mK_sA, mS_sA, ix_n, ix_a, ix_m, ix_s, z_sw, z_stop, forall_const, true_implies, false_implies, imp_self, implies_true, not_true_eq_false, not_false_eq_true, ne_eq, eq_self, Option.some.injEq, reduceCtorEq, Nat.reduceAdd, Nat.reduceSub, Nat.reduceMul, Nat.reduceEqDiff, Nat.reduceLT, Nat.reduceLeDiff, Int.reduceAdd, Int.reduceMul, Int.reduceSub, Int.reduceNeg, Int.reduceToNat, Int.reduceLT, Int.reduceLE, Int.reduceEq, ↓reduceIte, List.reverse_cons, Option.toList, List.cons_append, List.nil_append, vI_inj, vL_inj, vO_inj, rI, rL, rO, rV, mI_sQ, mL_sQ, mK_sQ, mS_sQ, mQ_s1, mQ_s2, iL_and, iL_or, iL_xor, iL_shl, iL_ushr, iR_and, iR_or, iR_xor, iR_shl, iR_shr, iR_ushr, iR_cmp, yc0, tlX8_first, tkX8_first, o_aload, o_getR, o_goto, o_iald, o_ic, o_icge, o_icne, o_iinc, o_iload, o_iret, o_istore, q2]
          try simp +contextual (disch := omega) only [impF, impT, and_true, true_and, implies_true, not_false_eq_true, not_true_eq_false]
          rw [← hQ, he]
          exact ⟨rfl, rfl⟩
        · have hnx := hnx (fun w => q2 w.2)
          refine z_run1 tsX8_first [2] 20 ?_
          simp (maxSteps := 1000000) -implicitDefEqProofs +contextual (disch := omega) only [z_wp_t, z_wp_u, ↓pI_e, ↓pL_e, ↓pO_e, ↓pR_e, ↓p1_I, ↓p1_O, z_gl, z_st1, z_st2, z_nl_I, z_nl_O, z_nl_J, z_nl_L, if_true, if_false, ite_true, ite_false, true_and, and_true, List.mem_cons, List.not_mem_nil, or_false, false_or, or_self, List.length_cons, List.length_nil, InR_t, InL_t, z_ix_t, mI_s1, mI_s2, ↓brT, ↓brF, ↓brT', ↓brF', mL_sI, mR_sI, mK_sI, mS_sI, mI_sL, mL_s1, mL_s2, mR_sL, mK_sL, mS_sL, mI_sR, mL_sR, mR_s1, mR_s2, mK_sR, mS_sR, mA_s1, mA_s2, mL_sA, mR_sA, mK_sA, mS_sA, ix_n, ix_a, ix_m, ix_s, z_sw, z_stop, forall_const, true_implies, false_implies, imp_self, implies_true, not_true_eq_false, not_false_eq_true, ne_eq, eq_self, Option.some.injEq, reduceCtorEq, Nat.reduceAdd, Nat.reduceSub, Nat.reduceMul, Nat.reduceEqDiff, Nat.reduceLT, Nat.reduceLeDiff, Int.reduceAdd, Int.reduceMul, Int.reduceSub, Int.reduceNeg, Int.reduceToNat, Int.reduceLT, Int.reduceLE, Int.reduceEq, ↓reduceIte, List.reverse_cons, Option.toList, List.cons_append, List.nil_append, vI_inj, vL_inj, vO_inj, rI, rL, rO, rV, mI_sQ, mL_sQ, mK_sQ, mS_sQ, mQ_s1, mQ_s2, iL_and, iL_or, iL_xor, iL_shl, iL_ushr, iR_and, iR_or, iR_xor, iR_shl, iR_shr, iR_ushr, iR_cmp, yc0, tlX8_first, tkX8_first, o_aload, o_getR, o_goto, o_iald, o_ic, o_icge, o_icne, o_iinc, o_iload, o_iret, o_istore]
          try simp +contextual (disch := omega) only [impF, impT, and_true, true_and, implies_true, not_false_eq_true, not_true_eq_false]
          exact hnx
      · have hnx := hnx (fun w => q1 w.1)
        have q1' : (F r : Int) ≠ (n : Int) := by omega
        refine z_run1 tsX8_first [2] 20 ?_
        simp (maxSteps := 1000000) -implicitDefEqProofs +contextual (disch := omega) only [z_wp_t, z_wp_u, ↓pI_e, ↓pL_e, ↓pO_e, ↓pR_e, ↓p1_I, ↓p1_O, z_gl, z_st1, z_st2, z_nl_I, z_nl_O, z_nl_J, z_nl_L, if_true, if_false, ite_true, ite_false, true_and, and_true, List.mem_cons, List.not_mem_nil, or_false, false_or, or_self, List.length_cons, List.length_nil, InR_t, InL_t, z_ix_t, mI_s1, mI_s2, ↓brT, ↓brF, ↓brT', ↓brF', mL_sI, mR_sI, mK_sI, mS_sI, mI_sL, mL_s1, mL_s2, mR_sL, mK_sL, mS_sL, mI_sR, mL_sR, mR_s1, mR_s2, mK_sR, mS_sR, mA_s1, mA_s2, mL_sA, mR_sA, mK_sA, mS_sA, ix_n, ix_a, ix_m, ix_s, z_sw, z_stop, forall_const, true_implies, false_implies, imp_self, implies_true, not_true_eq_false, not_false_eq_true, ne_eq, eq_self, Option.some.injEq, reduceCtorEq, Nat.reduceAdd, Nat.reduceSub, Nat.reduceMul, Nat.reduceEqDiff, Nat.reduceLT, Nat.reduceLeDiff, Int.reduceAdd, Int.reduceMul, Int.reduceSub, Int.reduceNeg, Int.reduceToNat, Int.reduceLT, Int.reduceLE, Int.reduceEq, ↓reduceIte, List.reverse_cons, Option.toList, List.cons_append, List.nil_append, vI_inj, vL_inj, vO_inj, rI, rL, rO, rV, mI_sQ, mL_sQ, mK_sQ, mS_sQ, mQ_s1, mQ_s2, iL_and, iL_or, iL_xor, iL_shl, iL_ushr, iR_and, iR_or, iR_xor, iR_shl, iR_shr, iR_ushr, iR_cmp, yc0, tlX8_first, tkX8_first, o_aload, o_getR, o_goto, o_iald, o_ic, o_icge, o_icne, o_iinc, o_iload, o_iret, o_istore, c0, c94, s0, e49, k106, s18, e106]
        try simp +contextual (disch := omega) only [impF, impT, and_true, true_and, implies_true, not_false_eq_true, not_true_eq_false]
        exact hnx
  have h0 := hlo (aC A) 0 (by omega) rfl
  clear hlo hF
  refine z_run1 tsX8_first [2] 20 ?_
  simp (maxSteps := 1000000) -implicitDefEqProofs +contextual (disch := omega) only [z_wp_t, z_wp_u, ↓pI_e, ↓pL_e, ↓pO_e, ↓pR_e, ↓p1_I, ↓p1_O, z_gl, z_st1, z_st2, z_nl_I, z_nl_O, z_nl_J, z_nl_L, if_true, if_false, ite_true, ite_false, true_and, and_true, List.mem_cons, List.not_mem_nil, or_false, false_or, or_self, List.length_cons, List.length_nil, InR_t, InL_t, z_ix_t, mI_s1, mI_s2, ↓brT, ↓brF, ↓brT', ↓brF', mL_sI, mR_sI, mK_sI, mS_sI, mI_sL, mL_s1, mL_s2, mR_sL, mK_sL, mS_sL, mI_sR, mL_sR, mR_s1, mR_s2, mK_sR, mS_sR, mA_s1, mA_s2, mL_sA, mR_sA, mK_sA, mS_sA, ix_n, ix_a, ix_m, ix_s, z_sw, z_stop, forall_const, true_implies, false_implies, imp_self, implies_true, not_true_eq_false, not_false_eq_true, ne_eq, eq_self, Option.some.injEq, reduceCtorEq, Nat.reduceAdd, Nat.reduceSub, Nat.reduceMul, Nat.reduceEqDiff, Nat.reduceLT, Nat.reduceLeDiff, Int.reduceAdd, Int.reduceMul, Int.reduceSub, Int.reduceNeg, Int.reduceToNat, Int.reduceLT, Int.reduceLE, Int.reduceEq, ↓reduceIte, List.reverse_cons, Option.toList, List.cons_append, List.nil_append, vI_inj, vL_inj, vO_inj, rI, rL, rO, rV, mI_sQ, mL_sQ, mK_sQ, mS_sQ, mQ_s1, mQ_s2, iL_and, iL_or, iL_xor, iL_shl, iL_ushr, iR_and, iR_or, iR_xor, iR_shl, iR_shr, iR_ushr, iR_cmp, yc0, tlX8_first, tkX8_first, o_aload, o_getR, o_goto, o_iald, o_ic, o_icge, o_icne, o_iinc, o_iload, o_iret, o_istore]
  try simp +contextual (disch := omega) only [impF, impT, and_true, true_and, implies_true, not_false_eq_true, not_true_eq_false]
  exact h0
