/-! the reference: features, the lock, undo, type, drop, rule -/
theorem MI.cell {h h2 : zH} {s : zS} {A' : zA} (hM : MI h s) (f : Fr (fun c => c = 93 ∨ c = 94 ∨ c = 95) h h2) (hR : gR h2 = gR h) (hm : MA (gI h2 94) A') (hA : AOK A') {hs' : List zA} (hH : MHi h2 hs') (h4 : gI h2 93 4 = gI h 93 4) : MI h2 (A', hs', sTx s, sTn s) ∧ MF h h2 :=
  hM.chg (MF.of f hR (fun c q => by omega)) hm hA hH h4 (f.I (by omega))
set_option maxRecDepth 4000 in
set_option maxHeartbeats 4000000 in
theorem sm_setFeature (l : Launch) (G : zG) (h : zH) (s : zS) (f on : Int) (hM : MI h s) (hf : InR f) (hon : on = 0 ∨ on = 1) (lv : Nat) (hlv : 3 ≤ lv) : z_Sp l G mtX8_setFeature lv 0 0 [vR 93, vI f, vI on] (h) (mQ h (fSetFeature s f on)) := by
  refine x_enter [vR 93, vI f, vI on, vJ] (by decide +kernel) (by omega) rfl (Nat.le_of_ble_eq_true rfl) ?_
  generalize hQ : mQ h (fSetFeature s f on) = QQ
  have hM0 := hM
  obtain ⟨hS, hm, hH, hT, hA⟩ := hM
  have k0 := hS.1
  refine z_run1 tsX8_setFeature [] 20 ?_
  simp (maxSteps := 1000000) -implicitDefEqProofs +contextual (disch := omega) only [z_wp_t, z_wp_u, ↓pI_e, ↓pL_e, ↓pO_e, ↓pR_e, ↓p1_I, ↓p1_O, z_gl, z_st1, z_st2, z_nl_I, z_nl_O, z_nl_J, z_nl_L, if_true, if_false, ite_true, ite_false, true_and, and_true, List.mem_cons, List.not_mem_nil, or_false, false_or, or_self, List.length_cons, List.length_nil, InR_t, InL_t, z_ix_t, mI_s1, mI_s2, ↓brT, ↓brF, ↓brT', ↓brF', mL_sI, mR_sI, mK_sI, mS_sI, mI_sL, mL_s1, mL_s2, mR_sL, mK_sL, mS_sL, mI_sR, mL_sR, mR_s1, mR_s2, mK_sR, mS_sR, mA_s1, mA_s2, mL_sA, mR_sA, mK_sA, mS_sA, ix_n, ix_a, ix_m, ix_s, z_sw, z_stop, forall_const, true_implies, false_implies, imp_self, implies_true, not_true_eq_false, not_false_eq_true, ne_eq, eq_self, Option.some.injEq, reduceCtorEq, Nat.reduceAdd, Nat.reduceSub, Nat.reduceMul, Nat.reduceEqDiff, Nat.reduceLT, Nat.reduceLeDiff, Int.reduceAdd, Int.reduceMul, Int.reduceSub, Int.reduceNeg, Int.reduceToNat, Int.reduceLT, Int.reduceLE, Int.reduceEq, ↓reduceIte, List.reverse_cons, Option.toList, List.cons_append, List.nil_append, vI_inj, vL_inj, vO_inj, rI, rL, rO, rV, mI_sQ, mL_sQ, mK_sQ, mS_sQ, mQ_s1, mQ_s2, iL_and, iL_or, iL_xor, iL_shl, iL_ushr, iR_and, iR_or, iR_xor, iR_shl, iR_shr, iR_ushr, iR_cmp, yc0, tlX8_setFeature, tkX8_setFeature, o_aload, o_getR, o_goto, o_iald, o_iand, o_iast, o_ic, o_ifeq, o_ifne, o_iload, o_ior, o_iret, o_ishl, o_ishr, o_istore, o_ixor]
  try simp +contextual (disch := omega) only [impF, impT, and_true, true_and, implies_true, not_false_eq_true, not_true_eq_false]
  refine x_callS (by decide +kernel) cv_X8_56 (sm_in l G h f 1 4 hf (by unfold InR; omega) (by unfold InR; omega) 1 (by omega)) (by omega) rfl (by omega) (by omega) rfl (Nat.le_of_ble_eq_true rfl) ?_
  rintro r h' ⟨rfl, hE⟩
  subst h'
  by_cases hfr : 1 ≤ f ∧ f ≤ 4
  · rw [if_pos hfr]
    rw [fSetFeature, if_pos hfr] at hQ
    have hok := feat_ok hA (on := on) hfr
    have hbit := z_bit (aF (sW s)) (k := f.toNat) (by omega)
    rw [show ((f.toNat : Nat) : Int) = f by omega] at hbit
    refine z_run1 tsX8_setFeature [] 20 ?_
    simp (maxSteps := 1000000) -implicitDefEqProofs +contextual (disch := omega) only [z_wp_t, z_wp_u, ↓pI_e, ↓pL_e, ↓pO_e, ↓pR_e, ↓p1_I, ↓p1_O, z_gl, z_st1, z_st2, z_nl_I, z_nl_O, z_nl_J, z_nl_L, if_true, if_false, ite_true, ite_false, true_and, and_true, List.mem_cons, List.not_mem_nil, or_false, false_or, or_self, List.length_cons, List.length_nil, InR_t, InL_t, z_ix_t, mI_s1, mI_s2, ↓brT, ↓brF, ↓brT', ↓brF', mL_sI, mR_sI, mK_sI, mS_sI, mI_sL, mL_s1, mL_s2, mR_sL, mK_sL, mS_sL, mI_sR, mL_sR, mR_s1, mR_s2, mK_sR, mS_sR, mA_s1, mA_s2, mL_sA, mR_sA, mK_sA, mS_sA, ix_n, ix_a, ix_m, ix_s, z_sw, z_stop, forall_const, true_implies, false_implies, imp_self, implies_true, not_true_eq_false, not_false_eq_true, ne_eq, eq_self, Option.some.injEq, reduceCtorEq, Nat.reduceAdd, Nat.reduceSub, Nat.reduceMul, Nat.reduceEqDiff, Nat.reduceLT, Nat.reduceLeDiff, Int.reduceAdd, Int.reduceMul, Int.reduceSub, Int.reduceNeg, Int.reduceToNat, Int.reduceLT, Int.reduceLE, Int.reduceEq, ↓reduceIte, List.reverse_cons, Option.toList, List.cons_append, List.nil_append, vI_inj, vL_inj, vO_inj, rI, rL, rO, rV, mI_sQ, mL_sQ, mK_sQ, mS_sQ, mQ_s1, mQ_s2, iL_and, iL_or, iL_xor, iL_shl, iL_ushr, iR_and, iR_or, iR_xor, iR_shl, iR_shr, iR_ushr, iR_cmp, yc0, tlX8_setFeature, tkX8_setFeature, o_aload, o_getR, o_goto, o_iald, o_iand, o_iast, o_ic, o_ifeq, o_ifne, o_iload, o_ior, o_iret, o_ishl, o_ishr, o_istore, o_ixor]
    try simp +contextual (disch := omega) only [impF, impT, and_true, true_and, implies_true, not_false_eq_true, not_true_eq_false]
    refine x_callV (by decide +kernel) cv_X8_75 (sm_keeps l G h (sW s) (sHs s) hS hm hA hH 1 (by omega)) k0 (by omega) rfl (by omega) (by omega) rfl (Nat.le_of_ble_eq_true rfl) ?_
    rintro r h1 ⟨rfl, f1, hR1, hk1, hH1⟩
    have hS1 := hS.of f1.K hR1
    obtain ⟨k0', ⟨k94', -⟩, -, ⟨r0', -⟩, -⟩ := hS1
    have hm1 : MA (gI h1 94) (sW s) := by rw [f1.I (by omega)]; exact hm
    have e40 := hm1.2.2.1
    have fin : ∀ z, z = fFeat (sW s) f on → QQ (some (vI (if tb (aF (sW s)) f.toNat then 1 else 0))) (sI h1 94 40 z) := fun z hz => by
      rw [← hQ]
      have f2 : Fr (fun c => c = 94) h1 (sI h1 94 40 z) := Fr_I1 _ _ _ _
      obtain ⟨a1, a2, a3, a4, a5, a6⟩ := hm1
      have e : ∀ j, j ≠ 40 → gI (sI h1 94 40 z) 94 j = gI h1 94 j := fun j hj => mI_s2 _ _ (Or.inr hj)
      have hm2 : MA (gI (sI h1 94 40 z) 94) (setF (sW s) (fFeat (sW s) f on)) := ⟨fun p hp => by rw [e _ (by omega)]; exact a1 p hp, fun p i hp hi => by rw [e _ (by have := hA.1 p hp; have : i < aN (sW s) p := hi; omega)]; exact a2 p i hp hi, by rw [mI_s1, hz]; rfl, fun p hp => by rw [e _ (by omega)]; exact a4 p hp, by rw [e _ (by omega)]; exact a5, fun r hr => (a6 r hr).c (fun k hk => e _ (by omega))⟩
      have fin := hM0.cell (f1.tr' f2 (fun c q => by omega) (fun c q => by omega)) (by rw [mR_sI]; exact hR1) hm2 hok (hH1.o (by rw [f2.I (by omega)]) (f2.I (by omega))) (by rw [f2.I (by omega)]; exact hk1 4 (by omega))
      exact ⟨rfl, fin.1, fin.2⟩
    rcases hon with rfl | rfl
    · have hfin := fin _ rfl
      unfold fFeat at hfin
      rw [if_pos (show (0 : Int) = 0 from rfl)] at hfin
      refine z_run1 tsX8_setFeature [] 50 ?_
      simp (maxSteps := 1000000) -implicitDefEqProofs +contextual (disch := omega) only [z_wp_t, z_wp_u, ↓pI_e, ↓pL_e, ↓pO_e, ↓pR_e, ↓p1_I, ↓p1_O, z_gl, z_st1, z_st2, z_nl_I, z_nl_O, z_nl_J, z_nl_L, if_true, if_false, ite_true, ite_false, true_and, and_true, List.mem_cons, List.not_mem_nil, or_false, false_or, or_self, List.length_cons, List.length_nil, InR_t, InL_t, z_ix_t, mI_s1, mI_s2, ↓brT, ↓brF, ↓brT', ↓brF', mL_sI, mR_sI, mK_sI, mS_sI, mI_sL, mL_s1, mL_s2, mR_sL, mK_sL, mS_sL, mI_sR, mL_sR, mR_s1, mR_s2, mK_sR, mS_sR, mA_s1, mA_s2, mL_sA, mR_sA, mK_sA, mS_sA, ix_n, ix_a, ix_m, ix_s, z_sw, z_stop, forall_const, true_implies, false_implies, imp_self, implies_true, not_true_eq_false, not_false_eq_true, ne_eq, eq_self, Option.some.injEq, reduceCtorEq, Nat.reduceAdd, Nat.reduceSub, Nat.reduceMul, Nat.reduceEqDiff, Nat.reduceLT, Nat.reduceLeDiff, Int.reduceAdd, Int.reduceMul, Int.reduceSub, Int.reduceNeg, Int.reduceToNat, Int.reduceLT, Int.reduceLE, Int.reduceEq, ↓reduceIte, List.reverse_cons, Option.toList, List.cons_append, List.nil_append, vI_inj, vL_inj, vO_inj, rI, rL, rO, rV, mI_sQ, mL_sQ, mK_sQ, mS_sQ, mQ_s1, mQ_s2, iL_and, iL_or, iL_xor, iL_shl, iL_ushr, iR_and, iR_or, iR_xor, iR_shl, iR_shr, iR_ushr, iR_cmp, yc0, tlX8_setFeature, tkX8_setFeature, o_aload, o_getR, o_goto, o_iald, o_iand, o_iast, o_ic, o_ifeq, o_ifne, o_iload, o_ior, o_iret, o_ishl, o_ishr, o_istore, o_ixor, k0', k94', r0', e40, hbit]
      try simp +contextual (disch := omega) only [impF, impT, and_true, true_and, implies_true, not_false_eq_true, not_true_eq_false]
      exact hfin
    · have hfin := fin _ rfl
      unfold fFeat at hfin
      rw [if_neg (show ¬ (1 : Int) = 0 by decide)] at hfin
      refine z_run1 tsX8_setFeature [] 50 ?_
      simp (maxSteps := 1000000) -implicitDefEqProofs +contextual (disch := omega) only [z_wp_t, z_wp_u, ↓pI_e, ↓pL_e, ↓pO_e, ↓pR_e, ↓p1_I, ↓p1_O, z_gl, z_st1, z_st2, z_nl_I, z_nl_O, z_nl_J, z_nl_L, if_true, if_false, ite_true, ite_false, true_and, and_true, List.mem_cons, List.not_mem_nil, or_false, false_or, or_self, List.length_cons, List.length_nil, InR_t, InL_t, z_ix_t, mI_s1, mI_s2, ↓brT, ↓brF, ↓brT', ↓brF', mL_sI, mR_sI, mK_sI, mS_sI, mI_sL, mL_s1, mL_s2, mR_sL, mK_sL, mS_sL, mI_sR, mL_sR, mR_s1, mR_s2, mK_sR, mS_sR, mA_s1, mA_s2, mL_sA, mR_sA, mK_sA, mS_sA, ix_n, ix_a, ix_m, ix_s, z_sw, z_stop, forall_const, true_implies, false_implies, imp_self, implies_true, not_true_eq_false, not_false_eq_true, ne_eq, eq_self, Option.some.injEq, reduceCtorEq, Nat.reduceAdd, Nat.reduceSub, Nat.reduceMul, Nat.reduceEqDiff, Nat.reduceLT, Nat.reduceLeDiff, Int.reduceAdd, Int.reduceMul, Int.reduceSub, Int.reduceNeg, Int.reduceToNat, Int.reduceLT, Int.reduceLE, Int.reduceEq, ↓reduceIte, List.reverse_cons, Option.toList, List.cons_append, List.nil_append, vI_inj, vL_inj, vO_inj, rI, rL, rO, rV, mI_sQ, mL_sQ, mK_sQ, mS_sQ, mQ_s1, mQ_s2, iL_and, iL_or, iL_xor, iL_shl, iL_ushr, iR_and, iR_or, iR_xor, iR_shl, iR_shr, iR_ushr, iR_cmp, yc0, tlX8_setFeature, tkX8_setFeature, o_aload, o_getR, o_goto, o_iald, o_iand, o_iast, o_ic, o_ifeq, o_ifne, o_iload, o_ior, o_iret, o_ishl, o_ishr, o_istore, o_ixor, k0', k94', r0', e40, hbit]
      try simp +contextual (disch := omega) only [impF, impT, and_true, true_and, implies_true, not_false_eq_true, not_true_eq_false]
      exact hfin
  · rw [if_neg hfr]
    rw [fSetFeature, if_neg hfr] at hQ
    refine z_run1 tsX8_setFeature [] 20 ?_
    simp (maxSteps := 1000000) -implicitDefEqProofs +contextual (disch := omega) only [z_wp_t, z_wp_u, ↓pI_e, ↓pL_e, ↓pO_e, ↓pR_e, ↓p1_I, ↓p1_O, z_gl, z_st1, z_st2, z_nl_I, z_nl_O, z_nl_J, z_nl_L, if_true, if_false, ite_true, ite_false, true_and, and_true, List.mem_cons, List.not_mem_nil, or_false, false_or, or_self, List.length_cons, List.length_nil, InR_t, InL_t, z_ix_t, mI_s1, mI_s2, ↓brT, ↓brF, ↓brT', ↓brF', mL_sI, mR_sI, mK_sI, mS_sI, mI_sL, mL_s1, mL_s2, mR_sL, mK_sL, mS_sL, mI_sR, mL_sR, mR_s1, mR_s2, mK_sR, mS_sR, mA_s1, mA_s2, mL_sA, mR_sA, mK_sA, mS_sA, ix_n, ix_a, ix_m, ix_s, z_sw, z_stop, forall_const, true_implies, false_implies, imp_self, implies_true, not_true_eq_false, not_false_eq_true, ne_eq, eq_self, Option.some.injEq, reduceCtorEq, Nat.reduceAdd, Nat.reduceSub, Nat.reduceMul, Nat.reduceEqDiff, Nat.reduceLT, Nat.reduceLeDiff, Int.reduceAdd, Int.reduceMul, Int.reduceSub, Int.reduceNeg, Int.reduceToNat, Int.reduceLT, Int.reduceLE, Int.reduceEq, ↓reduceIte, List.reverse_cons, Option.toList, List.cons_append, List.nil_append, vI_inj, vL_inj, vO_inj, rI, rL, rO, rV, mI_sQ, mL_sQ, mK_sQ, mS_sQ, mQ_s1, mQ_s2, iL_and, iL_or, iL_xor, iL_shl, iL_ushr, iR_and, iR_or, iR_xor, iR_shl, iR_shr, iR_ushr, iR_cmp, yc0, tlX8_setFeature, tkX8_setFeature, o_aload, o_getR, o_goto, o_iald, o_iand, o_iast, o_ic, o_ifeq, o_ifne, o_iload, o_ior, o_iret, o_ishl, o_ishr, o_istore, o_ixor]
    try simp +contextual (disch := omega) only [impF, impT, and_true, true_and, implies_true, not_false_eq_true, not_true_eq_false]
    rw [← hQ]
    exact ⟨rfl, hM0, MF.rf⟩
theorem MA.lock {g : Nat → Int} {A : zA} (hA : AOK A) {p : Nat} (hp : p < 8) {v : Int} (hm : MA g A) : MA (up g (41 + p) v) (setL A p v) := by
  obtain ⟨a1, a2, a3, a4, a5, a6⟩ := hm
  refine ⟨fun q hq => by rw [up_n _ _ (by omega)]; exact a1 q hq, fun q i hq hi => by rw [up_n _ _ (by have := hA.1 q hq; have : i < aN A q := hi; omega)]; exact a2 q i hq hi, by rw [up_n _ _ (by omega)]; exact a3, fun q hq => ?_, by rw [up_n _ _ (by omega)]; exact a5, fun r hr => (a6 r hr).c (fun k hk => up_n _ _ (by omega))⟩
  show _ = up (aL A) p v q
  by_cases e : q = p
  · rw [e, up_s, up_s]
  · rw [up_n _ _ (by omega), up_n _ _ e]; exact a4 q hq
set_option maxRecDepth 4000 in
set_option maxHeartbeats 4000000 in
theorem sm_setLock (l : Launch) (G : zG) (h : zH) (s : zS) (p v : Int) (hM : MI h s) (hp : InR p) (hv : InR v) (lv : Nat) (hlv : 3 ≤ lv) : z_Sp l G mtX8_setLock lv 0 0 [vR 93, vI p, vI v] (h) (mQ h (fSetLock s p v)) := by
  refine x_enter [vR 93, vI p, vI v, vJ] (by decide +kernel) (by omega) rfl (Nat.le_of_ble_eq_true rfl) ?_
  generalize hQ : mQ h (fSetLock s p v) = QQ
  have hM0 := hM
  obtain ⟨hS, hm, hH, hT, hA⟩ := hM
  have k0 := hS.1
  have hv' := hv
  unfold InR at hv'
  refine z_run1 tsX8_setLock [] 20 ?_
  simp (maxSteps := 1000000) -implicitDefEqProofs +contextual (disch := omega) only [z_wp_t, z_wp_u, ↓pI_e, ↓pL_e, ↓pO_e, ↓pR_e, ↓p1_I, ↓p1_O, z_gl, z_st1, z_st2, z_nl_I, z_nl_O, z_nl_J, z_nl_L, if_true, if_false, ite_true, ite_false, true_and, and_true, List.mem_cons, List.not_mem_nil, or_false, false_or, or_self, List.length_cons, List.length_nil, InR_t, InL_t, z_ix_t, mI_s1, mI_s2, ↓brT, ↓brF, ↓brT', ↓brF', mL_sI, mR_sI, mK_sI, mS_sI, mI_sL, mL_s1, mL_s2, mR_sL, mK_sL, mS_sL, mI_sR, mL_sR, mR_s1, mR_s2, mK_sR, mS_sR, mA_s1, mA_s2, mL_sA, mR_sA, mK_sA, mS_sA, ix_n, ix_a, ix_m, ix_s, z_sw, z_stop, forall_const, true_implies, false_implies, imp_self, implies_true, not_true_eq_false, not_false_eq_true, ne_eq, eq_self, Option.some.injEq, reduceCtorEq, Nat.reduceAdd, Nat.reduceSub, Nat.reduceMul, Nat.reduceEqDiff, Nat.reduceLT, Nat.reduceLeDiff, Int.reduceAdd, Int.reduceMul, Int.reduceSub, Int.reduceNeg, Int.reduceToNat, Int.reduceLT, Int.reduceLE, Int.reduceEq, ↓reduceIte, List.reverse_cons, Option.toList, List.cons_append, List.nil_append, vI_inj, vL_inj, vO_inj, rI, rL, rO, rV, mI_sQ, mL_sQ, mK_sQ, mS_sQ, mQ_s1, mQ_s2, iL_and, iL_or, iL_xor, iL_shl, iL_ushr, iR_and, iR_or, iR_xor, iR_shl, iR_shr, iR_ushr, iR_cmp, yc0, tlX8_setLock, tkX8_setLock, o_aload, o_getR, o_iadd, o_iald, o_iast, o_ic, o_iceq, o_ifeq, o_ifne, o_iload, o_iret, o_istore]
  try simp +contextual (disch := omega) only [impF, impT, and_true, true_and, implies_true, not_false_eq_true, not_true_eq_false]
  refine x_callS (by decide +kernel) cv_X8_64 (sm_isPack l G h p hp 2 (by omega)) (by omega) rfl (by omega) (by omega) rfl (Nat.le_of_ble_eq_true rfl) ?_
  rintro r h' ⟨rfl, hE⟩
  subst h'
  cases hop : okP p
  · simp only [Bool.false_eq_true, if_false]
    refine z_run1 tsX8_setLock [] 20 ?_
    simp (maxSteps := 1000000) -implicitDefEqProofs +contextual (disch := omega) only [z_wp_t, z_wp_u, ↓pI_e, ↓pL_e, ↓pO_e, ↓pR_e, ↓p1_I, ↓p1_O, z_gl, z_st1, z_st2, z_nl_I, z_nl_O, z_nl_J, z_nl_L, if_true, if_false, ite_true, ite_false, true_and, and_true, List.mem_cons, List.not_mem_nil, or_false, false_or, or_self, List.length_cons, List.length_nil, InR_t, InL_t, z_ix_t, mI_s1, mI_s2, ↓brT, ↓brF, ↓brT', ↓brF', mL_sI, mR_sI, mK_sI, mS_sI, mI_sL, mL_s1, mL_s2, mR_sL, mK_sL, mS_sL, mI_sR, mL_sR, mR_s1, mR_s2, mK_sR, mS_sR, mA_s1, mA_s2, mL_sA, mR_sA, mK_sA, mS_sA, ix_n, ix_a, ix_m, ix_s, z_sw, z_stop, forall_const, true_implies, false_implies, imp_self, implies_true, not_true_eq_false, not_false_eq_true, ne_eq, eq_self, Option.some.injEq, reduceCtorEq, Nat.reduceAdd, Nat.reduceSub, Nat.reduceMul, Nat.reduceEqDiff, Nat.reduceLT, Nat.reduceLeDiff, Int.reduceAdd, Int.reduceMul, Int.reduceSub, Int.reduceNeg, Int.reduceToNat, Int.reduceLT, Int.reduceLE, Int.reduceEq, ↓reduceIte, List.reverse_cons, Option.toList, List.cons_append, List.nil_append, vI_inj, vL_inj, vO_inj, rI, rL, rO, rV, mI_sQ, mL_sQ, mK_sQ, mS_sQ, mQ_s1, mQ_s2, iL_and, iL_or, iL_xor, iL_shl, iL_ushr, iR_and, iR_or, iR_xor, iR_shl, iR_shr, iR_ushr, iR_cmp, yc0, tlX8_setLock, tkX8_setLock, o_aload, o_getR, o_iadd, o_iald, o_iast, o_ic, o_iceq, o_ifeq, o_ifne, o_iload, o_iret, o_istore]
    try simp +contextual (disch := omega) only [impF, impT, and_true, true_and, implies_true, not_false_eq_true, not_true_eq_false]
    rw [← hQ, fSetLock, hop]
    exact ⟨rfl, hM0, MF.rf⟩
  · simp only [if_true]
    have hp2 := okP_t hop
    obtain ⟨P, rfl⟩ := Int.eq_ofNat_of_zero_le hp2.1
    have hP : P < 8 := by omega
    rw [fSetLock, hop, Int.toNat_natCast] at hQ
    have body : (-1 ≤ v ∧ v ≤ 999) → mQ h (aL (sW s) P, setL (sW s) P v, hPush (sHs s) (sW s), sTx s, sTn s) = QQ → z_X l G mtX8_setLock lv 0 0 (QQ) 0 0 (h) 22 [vR 93, vI (P : Int), vI v, vJ] [] := by
      intro hvr hQ
      refine z_run1 tsX8_setLock [] 20 ?_
      simp (maxSteps := 1000000) -implicitDefEqProofs +contextual (disch := omega) only [z_wp_t, z_wp_u, ↓pI_e, ↓pL_e, ↓pO_e, ↓pR_e, ↓p1_I, ↓p1_O, z_gl, z_st1, z_st2, z_nl_I, z_nl_O, z_nl_J, z_nl_L, if_true, if_false, ite_true, ite_false, true_and, and_true, List.mem_cons, List.not_mem_nil, or_false, false_or, or_self, List.length_cons, List.length_nil, InR_t, InL_t, z_ix_t, mI_s1, mI_s2, ↓brT, ↓brF, ↓brT', ↓brF', mL_sI, mR_sI, mK_sI, mS_sI, mI_sL, mL_s1, mL_s2, mR_sL, mK_sL, mS_sL, mI_sR, mL_sR, mR_s1, mR_s2, mK_sR, mS_sR, mA_s1, mA_s2, mL_sA, mR_sA, mK_sA, mS_sA, ix_n, ix_a, ix_m, ix_s, z_sw, z_stop, forall_const, true_implies, false_implies, imp_self, implies_true, not_true_eq_false, not_false_eq_true, ne_eq, eq_self, Option.some.injEq, reduceCtorEq, Nat.reduceAdd, Nat.reduceSub, Nat.reduceMul, Nat.reduceEqDiff, Nat.reduceLT, Nat.reduceLeDiff, Int.reduceAdd, Int.reduceMul, Int.reduceSub, Int.reduceNeg, Int.reduceToNat, Int.reduceLT, Int.reduceLE, Int.reduceEq, ↓reduceIte, List.reverse_cons, Option.toList, List.cons_append, List.nil_append, vI_inj, vL_inj, vO_inj, rI, rL, rO, rV, mI_sQ, mL_sQ, mK_sQ, mS_sQ, mQ_s1, mQ_s2, iL_and, iL_or, iL_xor, iL_shl, iL_ushr, iR_and, iR_or, iR_xor, iR_shl, iR_shr, iR_ushr, iR_cmp, yc0, tlX8_setLock, tkX8_setLock, o_aload, o_getR, o_iadd, o_iald, o_iast, o_ic, o_iceq, o_ifeq, o_ifne, o_iload, o_iret, o_istore]
      try simp +contextual (disch := omega) only [impF, impT, and_true, true_and, implies_true, not_false_eq_true, not_true_eq_false]
      refine x_callV (by decide +kernel) cv_X8_75 (sm_keeps l G h (sW s) (sHs s) hS hm hA hH 1 (by omega)) k0 (by omega) rfl (by omega) (by omega) rfl (Nat.le_of_ble_eq_true rfl) ?_
      rintro r h1 ⟨rfl, f1, hR1, hk1, hH1⟩
      have hS1 := hS.of f1.K hR1
      obtain ⟨k0', ⟨k94', -⟩, -, ⟨r0', -⟩, -⟩ := hS1
      have hm1 : MA (gI h1 94) (sW s) := by rw [f1.I (by omega)]; exact hm
      have e41 := hm1.2.2.2.1 P hP
      have f2 : Fr (fun c => c = 94) h1 (sI h1 94 (41 + P) v) := Fr_I1 _ _ _ _
      have hm2 : MA (gI (sI h1 94 (41 + P) v) 94) (setL (sW s) P v) := by rw [sI_eq, mI_sAs]; exact hm1.lock hA hP
      have fin := hM0.cell (f1.tr' f2 (fun c q => by omega) (fun c q => by omega)) (by rw [mR_sI]; exact hR1) hm2 (lock_ok hA hvr) (hH1.o (by rw [f2.I (by omega)]) (f2.I (by omega))) (by rw [f2.I (by omega)]; exact hk1 4 (by omega))
      refine z_run1 tsX8_setLock [] 30 ?_
      simp (maxSteps := 1000000) -implicitDefEqProofs +contextual (disch := omega) only [z_wp_t, z_wp_u, ↓pI_e, ↓pL_e, ↓pO_e, ↓pR_e, ↓p1_I, ↓p1_O, z_gl, z_st1, z_st2, z_nl_I, z_nl_O, z_nl_J, z_nl_L, if_true, if_false, ite_true, ite_false, true_and, and_true, List.mem_cons, List.not_mem_nil, or_false, false_or, or_self, List.length_cons, List.length_nil, InR_t, InL_t, z_ix_t, mI_s1, mI_s2, ↓brT, ↓brF, ↓brT', ↓brF', mL_sI, mR_sI, mK_sI, mS_sI, mI_sL, mL_s1, mL_s2, mR_sL, mK_sL, mS_sL, mI_sR, mL_sR, mR_s1, mR_s2, mK_sR, mS_sR, mA_s1, mA_s2, mL_sA, mR_sA, mK_sA, mS_sA, ix_n, ix_a, ix_m, ix_s, z_sw, z_stop, forall_const, true_implies, false_implies, imp_self, implies_true, not_true_eq_false, not_false_eq_true, ne_eq, eq_self, Option.some.injEq, reduceCtorEq, Nat.reduceAdd, Nat.reduceSub, Nat.reduceMul, Nat.reduceEqDiff, Nat.reduceLT, Nat.reduceLeDiff, Int.reduceAdd, Int.reduceMul, Int.reduceSub, Int.reduceNeg, Int.reduceToNat, Int.reduceLT, Int.reduceLE, Int.reduceEq, ↓reduceIte, List.reverse_cons, Option.toList, List.cons_append, List.nil_append, vI_inj, vL_inj, vO_inj, rI, rL, rO, rV, mI_sQ, mL_sQ, mK_sQ, mS_sQ, mQ_s1, mQ_s2, iL_and, iL_or, iL_xor, iL_shl, iL_ushr, iR_and, iR_or, iR_xor, iR_shl, iR_shr, iR_ushr, iR_cmp, yc0, tlX8_setLock, tkX8_setLock, o_aload, o_getR, o_iadd, o_iald, o_iast, o_ic, o_iceq, o_ifeq, o_ifne, o_iload, o_iret, o_istore, k0', k94', r0', e41]
      try simp +contextual (disch := omega) only [impF, impT, and_true, true_and, implies_true, not_false_eq_true, not_true_eq_false]
      rw [← hQ]
      exact ⟨rfl, fin.1, fin.2⟩
    by_cases h1 : v = -1
    · have hb := body (by omega) (by rw [← hQ]; simp [h1])
      refine z_run1 tsX8_setLock [22] 20 ?_
      simp (maxSteps := 1000000) -implicitDefEqProofs +contextual (disch := omega) only [z_wp_t, z_wp_u, ↓pI_e, ↓pL_e, ↓pO_e, ↓pR_e, ↓p1_I, ↓p1_O, z_gl, z_st1, z_st2, z_nl_I, z_nl_O, z_nl_J, z_nl_L, if_true, if_false, ite_true, ite_false, true_and, and_true, List.mem_cons, List.not_mem_nil, or_false, false_or, or_self, List.length_cons, List.length_nil, InR_t, InL_t, z_ix_t, mI_s1, mI_s2, ↓brT, ↓brF, ↓brT', ↓brF', mL_sI, mR_sI, mK_sI, mS_sI, mI_sL, mL_s1, mL_s2, mR_sL, mK_sL, mS_sL, mI_sR, mL_sR, mR_s1, mR_s2, mK_sR, mS_sR, mA_s1, mA_s2, mL_sA, mR_sA, mK_sA, mS_sA, ix_n, ix_a, ix_m, ix_s, z_sw, z_stop, forall_const, true_implies, false_implies, imp_self, implies_true, not_true_eq_false, not_false_eq_true, ne_eq, eq_self, Option.some.injEq, reduceCtorEq, Nat.reduceAdd, Nat.reduceSub, Nat.reduceMul, Nat.reduceEqDiff, Nat.reduceLT, Nat.reduceLeDiff, Int.reduceAdd, Int.reduceMul, Int.reduceSub, Int.reduceNeg, Int.reduceToNat, Int.reduceLT, Int.reduceLE, Int.reduceEq, ↓reduceIte, List.reverse_cons, Option.toList, List.cons_append, List.nil_append, vI_inj, vL_inj, vO_inj, rI, rL, rO, rV, mI_sQ, mL_sQ, mK_sQ, mS_sQ, mQ_s1, mQ_s2, iL_and, iL_or, iL_xor, iL_shl, iL_ushr, iR_and, iR_or, iR_xor, iR_shl, iR_shr, iR_ushr, iR_cmp, yc0, tlX8_setLock, tkX8_setLock, o_aload, o_getR, o_iadd, o_iald, o_iast, o_ic, o_iceq, o_ifeq, o_ifne, o_iload, o_iret, o_istore]
      try simp +contextual (disch := omega) only [impF, impT, and_true, true_and, implies_true, not_false_eq_true, not_true_eq_false]
      exact hb
    · refine z_run1 tsX8_setLock [22] 20 ?_
      simp (maxSteps := 1000000) -implicitDefEqProofs +contextual (disch := omega) only [z_wp_t, z_wp_u, ↓pI_e, ↓pL_e, ↓pO_e, ↓pR_e, ↓p1_I, ↓p1_O, z_gl, z_st1, z_st2, z_nl_I, z_nl_O, z_nl_J, z_nl_L, if_true, if_false, ite_true, ite_false, true_and, and_true, List.mem_cons, List.not_mem_nil, or_false, false_or, or_self, List.length_cons, List.length_nil, InR_t, InL_t, z_ix_t, mI_s1, mI_s2, ↓brT, ↓brF, ↓brT', ↓brF', mL_sI, mR_sI, mK_sI, mS_sI, mI_sL, mL_s1, mL_s2, mR_sL, mK_sL, mS_sL, mI_sR, mL_sR, mR_s1, mR_s2, mK_sR, mS_sR, mA_s1, mA_s2, mL_sA, mR_sA, mK_sA, mS_sA, ix_n, ix_a, ix_m, ix_s, z_sw, z_stop, forall_const, true_implies, false_implies, imp_self, implies_true, not_true_eq_false, not_false_eq_true, ne_eq, eq_self, Option.some.injEq, reduceCtorEq, Nat.reduceAdd, Nat.reduceSub, Nat.reduceMul, Nat.reduceEqDiff, Nat.reduceLT, Nat.reduceLeDiff, Int.reduceAdd, Int.reduceMul, Int.reduceSub, Int.reduceNeg, Int.reduceToNat, Int.reduceLT, Int.reduceLE, Int.reduceEq, ↓reduceIte, List.reverse_cons, Option.toList, List.cons_append, List.nil_append, vI_inj, vL_inj, vO_inj, rI, rL, rO, rV, mI_sQ, mL_sQ, mK_sQ, mS_sQ, mQ_s1, mQ_s2, iL_and, iL_or, iL_xor, iL_shl, iL_ushr, iR_and, iR_or, iR_xor, iR_shl, iR_shr, iR_ushr, iR_cmp, yc0, tlX8_setLock, tkX8_setLock, o_aload, o_getR, o_iadd, o_iald, o_iast, o_ic, o_iceq, o_ifeq, o_ifne, o_iload, o_iret, o_istore]
      try simp +contextual (disch := omega) only [impF, impT, and_true, true_and, implies_true, not_false_eq_true, not_true_eq_false]
      refine x_callS (by decide +kernel) cv_X8_68 (sm_isVersion l G h v hv 2 (by omega)) (by omega) rfl (by omega) (by omega) rfl (Nat.le_of_ble_eq_true rfl) ?_
      rintro r h' ⟨rfl, hE⟩
      subst h'
      cases hov : okV v
      · simp only [Bool.false_eq_true, if_false]
        refine z_run1 tsX8_setLock [] 20 ?_
        simp (maxSteps := 1000000) -implicitDefEqProofs +contextual (disch := omega) only [z_wp_t, z_wp_u, ↓pI_e, ↓pL_e, ↓pO_e, ↓pR_e, ↓p1_I, ↓p1_O, z_gl, z_st1, z_st2, z_nl_I, z_nl_O, z_nl_J, z_nl_L, if_true, if_false, ite_true, ite_false, true_and, and_true, List.mem_cons, List.not_mem_nil, or_false, false_or, or_self, List.length_cons, List.length_nil, InR_t, InL_t, z_ix_t, mI_s1, mI_s2, ↓brT, ↓brF, ↓brT', ↓brF', mL_sI, mR_sI, mK_sI, mS_sI, mI_sL, mL_s1, mL_s2, mR_sL, mK_sL, mS_sL, mI_sR, mL_sR, mR_s1, mR_s2, mK_sR, mS_sR, mA_s1, mA_s2, mL_sA, mR_sA, mK_sA, mS_sA, ix_n, ix_a, ix_m, ix_s, z_sw, z_stop, forall_const, true_implies, false_implies, imp_self, implies_true, not_true_eq_false, not_false_eq_true, ne_eq, eq_self, Option.some.injEq, reduceCtorEq, Nat.reduceAdd, Nat.reduceSub, Nat.reduceMul, Nat.reduceEqDiff, Nat.reduceLT, Nat.reduceLeDiff, Int.reduceAdd, Int.reduceMul, Int.reduceSub, Int.reduceNeg, Int.reduceToNat, Int.reduceLT, Int.reduceLE, Int.reduceEq, ↓reduceIte, List.reverse_cons, Option.toList, List.cons_append, List.nil_append, vI_inj, vL_inj, vO_inj, rI, rL, rO, rV, mI_sQ, mL_sQ, mK_sQ, mS_sQ, mQ_s1, mQ_s2, iL_and, iL_or, iL_xor, iL_shl, iL_ushr, iR_and, iR_or, iR_xor, iR_shl, iR_shr, iR_ushr, iR_cmp, yc0, tlX8_setLock, tkX8_setLock, o_aload, o_getR, o_iadd, o_iald, o_iast, o_ic, o_iceq, o_ifeq, o_ifne, o_iload, o_iret, o_istore]
        try simp +contextual (disch := omega) only [impF, impT, and_true, true_and, implies_true, not_false_eq_true, not_true_eq_false]
        rw [← hQ, hov]
        simp only [h1, decide_false, Bool.false_or, Bool.and_false, Bool.false_eq_true, if_false]
        exact ⟨rfl, hM0, MF.rf⟩
      · simp only [if_true]
        have hv2 := okV_t hov
        have hb := body (by omega) (by rw [← hQ, hov]; simp)
        refine z_run1 tsX8_setLock [22] 20 ?_
        simp (maxSteps := 1000000) -implicitDefEqProofs +contextual (disch := omega) only [z_wp_t, z_wp_u, ↓pI_e, ↓pL_e, ↓pO_e, ↓pR_e, ↓p1_I, ↓p1_O, z_gl, z_st1, z_st2, z_nl_I, z_nl_O, z_nl_J, z_nl_L, if_true, if_false, ite_true, ite_false, true_and, and_true, List.mem_cons, List.not_mem_nil, or_false, false_or, or_self, List.length_cons, List.length_nil, InR_t, InL_t, z_ix_t, mI_s1, mI_s2, ↓brT, ↓brF, ↓brT', ↓brF', mL_sI, mR_sI, mK_sI, mS_sI, mI_sL, mL_s1, mL_s2, mR_sL, mK_sL, mS_sL, mI_sR, mL_sR, mR_s1, mR_s2, mK_sR, mS_sR, mA_s1, mA_s2, mL_sA, mR_sA, mK_sA, mS_sA, ix_n, ix_a, ix_m, ix_s, z_sw, z_stop, forall_const, true_implies, false_implies, imp_self, implies_true, not_true_eq_false, not_false_eq_true, ne_eq, eq_self, Option.some.injEq, reduceCtorEq, Nat.reduceAdd, Nat.reduceSub, Nat.reduceMul, Nat.reduceEqDiff, Nat.reduceLT, Nat.reduceLeDiff, Int.reduceAdd, Int.reduceMul, Int.reduceSub, Int.reduceNeg, Int.reduceToNat, Int.reduceLT, Int.reduceLE, Int.reduceEq, ↓reduceIte, List.reverse_cons, Option.toList, List.cons_append, List.nil_append, vI_inj, vL_inj, vO_inj, rI, rL, rO, rV, mI_sQ, mL_sQ, mK_sQ, mS_sQ, mQ_s1, mQ_s2, iL_and, iL_or, iL_xor, iL_shl, iL_ushr, iR_and, iR_or, iR_xor, iR_shl, iR_shr, iR_ushr, iR_cmp, yc0, tlX8_setLock, tkX8_setLock, o_aload, o_getR, o_iadd, o_iald, o_iast, o_ic, o_iceq, o_ifeq, o_ifne, o_iload, o_iret, o_istore]
        try simp +contextual (disch := omega) only [impF, impT, and_true, true_and, implies_true, not_false_eq_true, not_true_eq_false]
        exact hb
set_option maxHeartbeats 4000000 in
theorem sm_locked (l : Launch) (G : zG) (h : zH) (s : zS) (p : Int) (hM : MI h s) (hp : InR p) (lv : Nat) (hlv : 3 ≤ lv) : z_Sp l G mtX8_locked lv 0 0 [vR 93, vI p] (h) (mQ h (fLocked s p, s)) := by
  refine x_enter [vR 93, vI p] (by decide +kernel) (by omega) rfl (Nat.le_of_ble_eq_true rfl) ?_
  generalize hQ : mQ h (fLocked s p, s) = QQ
  have hM0 := hM
  obtain ⟨⟨k0, ⟨k94, -⟩, -, ⟨r0, -⟩, -⟩, hm, hH, hT, hA⟩ := hM
  refine z_run1 tsX8_locked [] 20 ?_
  simp (maxSteps := 1000000) -implicitDefEqProofs +contextual (disch := omega) only [z_wp_t, z_wp_u, ↓pI_e, ↓pL_e, ↓pO_e, ↓pR_e, ↓p1_I, ↓p1_O, z_gl, z_st1, z_st2, z_nl_I, z_nl_O, z_nl_J, z_nl_L, if_true, if_false, ite_true, ite_false, true_and, and_true, List.mem_cons, List.not_mem_nil, or_false, false_or, or_self, List.length_cons, List.length_nil, InR_t, InL_t, z_ix_t, mI_s1, mI_s2, ↓brT, ↓brF, ↓brT', ↓brF', mL_sI, mR_sI, mK_sI, mS_sI, mI_sL, mL_s1, mL_s2, mR_sL, mK_sL, mS_sL, mI_sR, mL_sR, mR_s1, mR_s2, mK_sR, mS_sR, mA_s1, mA_s2, mL_sA, mR_sA, mK_sA, mS_sA, ix_n, ix_a, ix_m, ix_s, z_sw, z_stop, forall_const, true_implies, false_implies, imp_self, implies_true, not_true_eq_false, not_false_eq_true, ne_eq, eq_self, Option.some.injEq, reduceCtorEq, Nat.reduceAdd, Nat.reduceSub, Nat.reduceMul, Nat.reduceEqDiff, Nat.reduceLT, Nat.reduceLeDiff, Int.reduceAdd, Int.reduceMul, Int.reduceSub, Int.reduceNeg, Int.reduceToNat, Int.reduceLT, Int.reduceLE, Int.reduceEq, ↓reduceIte, List.reverse_cons, Option.toList, List.cons_append, List.nil_append, vI_inj, vL_inj, vO_inj, rI, rL, rO, rV, mI_sQ, mL_sQ, mK_sQ, mS_sQ, mQ_s1, mQ_s2, iL_and, iL_or, iL_xor, iL_shl, iL_ushr, iR_and, iR_or, iR_xor, iR_shl, iR_shr, iR_ushr, iR_cmp, yc0, tlX8_locked, tkX8_locked, o_aload, o_getR, o_goto, o_iadd, o_iald, o_ic, o_ifeq, o_iload, o_iret]
  try simp +contextual (disch := omega) only [impF, impT, and_true, true_and, implies_true, not_false_eq_true, not_true_eq_false]
  refine x_callS (by decide +kernel) cv_X8_64 (sm_isPack l G h p hp 2 (by omega)) (by omega) rfl (by omega) (by omega) rfl (Nat.le_of_ble_eq_true rfl) ?_
  rintro r h' ⟨rfl, hE⟩
  subst h'
  cases hop : okP p
  · simp only [Bool.false_eq_true, if_false]
    refine z_run1 tsX8_locked [] 20 ?_
    simp (maxSteps := 1000000) -implicitDefEqProofs +contextual (disch := omega) only [z_wp_t, z_wp_u, ↓pI_e, ↓pL_e, ↓pO_e, ↓pR_e, ↓p1_I, ↓p1_O, z_gl, z_st1, z_st2, z_nl_I, z_nl_O, z_nl_J, z_nl_L, if_true, if_false, ite_true, ite_false, true_and, and_true, List.mem_cons, List.not_mem_nil, or_false, false_or, or_self, List.length_cons, List.length_nil, InR_t, InL_t, z_ix_t, mI_s1, mI_s2, ↓brT, ↓brF, ↓brT', ↓brF', mL_sI, mR_sI, mK_sI, mS_sI, mI_sL, mL_s1, mL_s2, mR_sL, mK_sL, mS_sL, mI_sR, mL_sR, mR_s1, mR_s2, mK_sR, mS_sR, mA_s1, mA_s2, mL_sA, mR_sA, mK_sA, mS_sA, ix_n, ix_a, ix_m, ix_s, z_sw, z_stop, forall_const, true_implies, false_implies, imp_self, implies_true, not_true_eq_false, not_false_eq_true, ne_eq, eq_self, Option.some.injEq, reduceCtorEq, Nat.reduceAdd, Nat.reduceSub, Nat.reduceMul, Nat.reduceEqDiff, Nat.reduceLT, Nat.reduceLeDiff, Int.reduceAdd, Int.reduceMul, Int.reduceSub, Int.reduceNeg, Int.reduceToNat, Int.reduceLT, Int.reduceLE, Int.reduceEq, ↓reduceIte, List.reverse_cons, Option.toList, List.cons_append, List.nil_append, vI_inj, vL_inj, vO_inj, rI, rL, rO, rV, mI_sQ, mL_sQ, mK_sQ, mS_sQ, mQ_s1, mQ_s2, iL_and, iL_or, iL_xor, iL_shl, iL_ushr, iR_and, iR_or, iR_xor, iR_shl, iR_shr, iR_ushr, iR_cmp, yc0, tlX8_locked, tkX8_locked, o_aload, o_getR, o_goto, o_iadd, o_iald, o_ic, o_ifeq, o_iload, o_iret]
    try simp +contextual (disch := omega) only [impF, impT, and_true, true_and, implies_true, not_false_eq_true, not_true_eq_false]
    rw [← hQ, fLocked, hop]
    exact ⟨rfl, hM0, MF.rf⟩
  · simp only [if_true]
    have hp2 := okP_t hop
    obtain ⟨P, rfl⟩ := Int.eq_ofNat_of_zero_le hp2.1
    have e41 := hm.2.2.2.1 P (by omega)
    rw [fLocked, hop, Int.toNat_natCast] at hQ
    refine z_run1 tsX8_locked [] 20 ?_
    simp (maxSteps := 1000000) -implicitDefEqProofs +contextual (disch := omega) only [z_wp_t, z_wp_u, ↓pI_e, ↓pL_e, ↓pO_e, ↓pR_e, ↓p1_I, ↓p1_O, z_gl, z_st1, z_st2, z_nl_I, z_nl_O, z_nl_J, z_nl_L, if_true, if_false, ite_true, ite_false, true_and, and_true, List.mem_cons, List.not_mem_nil, or_false, false_or, or_self, List.length_cons, List.length_nil, InR_t, InL_t, z_ix_t, mI_s1, mI_s2, ↓brT, ↓brF, ↓brT', ↓brF', mL_sI, mR_sI, mK_sI, mS_sI, mI_sL, mL_s1, mL_s2, mR_sL, mK_sL, mS_sL, mI_sR, mL_sR, mR_s1, mR_s2, mK_sR, mS_sR, mA_s1, mA_s2, mL_sA, mR_sA, mK_sA, mS_sA, ix_n, ix_a, ix_m, ix_s, z_sw, z_stop, forall_const, true_implies, false_implies, imp_self, implies_true, not_true_eq_false, not_false_eq_true, ne_eq, eq_self, Option.some.injEq, reduceCtorEq, Nat.reduceAdd, Nat.reduceSub, Nat.reduceMul, Nat.reduceEqDiff, Nat.reduceLT, Nat.reduceLeDiff, Int.reduceAdd, Int.reduceMul, Int.reduceSub, Int.reduceNeg, Int.reduceToNat, Int.reduceLT, Int.reduceLE, Int.reduceEq, ↓reduceIte, List.reverse_cons, Option.toList, List.cons_append, List.nil_append, vI_inj, vL_inj, vO_inj, rI, rL, rO, rV, mI_sQ, mL_sQ, mK_sQ, mS_sQ, mQ_s1, mQ_s2, iL_and, iL_or, iL_xor, iL_shl, iL_ushr, iR_and, iR_or, iR_xor, iR_shl, iR_shr, iR_ushr, iR_cmp, yc0, tlX8_locked, tkX8_locked, o_aload, o_getR, o_goto, o_iadd, o_iald, o_ic, o_ifeq, o_iload, o_iret, k0, k94, r0, e41]
    try simp +contextual (disch := omega) only [impF, impT, and_true, true_and, implies_true, not_false_eq_true, not_true_eq_false]
    rw [← hQ]
    exact ⟨rfl, hM0, MF.rf⟩
set_option maxRecDepth 4000 in
set_option maxHeartbeats 4000000 in
theorem sm_undo (l : Launch) (G : zG) (h : zH) (s : zS) (hM : MI h s) (lv : Nat) (hlv : 1 ≤ lv) : z_Sp l G mtX8_undo lv 0 0 [vR 93] (h) (mQ h (fUndo s)) := by
  refine x_enter [vR 93, vJ] (by decide +kernel) (by omega) rfl (Nat.le_of_ble_eq_true rfl) ?_
  generalize hQ : mQ h (fUndo s) = QQ
  have hM0 := hM
  obtain ⟨⟨k0, ⟨k94, k95, -⟩, -, ⟨r0, r1, -⟩, -⟩, hm, hH, hT, hA⟩ := hM
  obtain ⟨hu, hl10, hst⟩ := hH
  rcases List.eq_nil_or_concat (sHs s) with e | ⟨L, B, hLB⟩
  · rw [fUndo, if_pos e] at hQ
    have hu0 : gI h 93 2 = 0 := by rw [hu, e]; rfl
    refine z_run1 tsX8_undo [] 20 ?_
    simp (maxSteps := 1000000) -implicitDefEqProofs +contextual (disch := omega) only [z_wp_t, z_wp_u, ↓pI_e, ↓pL_e, ↓pO_e, ↓pR_e, ↓p1_I, ↓p1_O, z_gl, z_st1, z_st2, z_nl_I, z_nl_O, z_nl_J, z_nl_L, if_true, if_false, ite_true, ite_false, true_and, and_true, List.mem_cons, List.not_mem_nil, or_false, false_or, or_self, List.length_cons, List.length_nil, InR_t, InL_t, z_ix_t, mI_s1, mI_s2, ↓brT, ↓brF, ↓brT', ↓brF', mL_sI, mR_sI, mK_sI, mS_sI, mI_sL, mL_s1, mL_s2, mR_sL, mK_sL, mS_sL, mI_sR, mL_sR, mR_s1, mR_s2, mK_sR, mS_sR, mA_s1, mA_s2, mL_sA, mR_sA, mK_sA, mS_sA, ix_n, ix_a, ix_m, ix_s, z_sw, z_stop, forall_const, true_implies, false_implies, imp_self, implies_true, not_true_eq_false, not_false_eq_true, ne_eq, eq_self, Option.some.injEq, reduceCtorEq, Nat.reduceAdd, Nat.reduceSub, Nat.reduceMul, Nat.reduceEqDiff, Nat.reduceLT, Nat.reduceLeDiff, Int.reduceAdd, Int.reduceMul, Int.reduceSub, Int.reduceNeg, Int.reduceToNat, Int.reduceLT, Int.reduceLE, Int.reduceEq, ↓reduceIte, List.reverse_cons, Option.toList, List.cons_append, List.nil_append, vI_inj, vL_inj, vO_inj, rI, rL, rO, rV, mI_sQ, mL_sQ, mK_sQ, mS_sQ, mQ_s1, mQ_s2, iL_and, iL_or, iL_xor, iL_shl, iL_ushr, iR_and, iR_or, iR_xor, iR_shl, iR_shr, iR_ushr, iR_cmp, yc0, tlX8_undo, o_aload, o_dup, o_getI, o_getR, o_goto, o_iadd, o_iald, o_iast, o_ic, o_icge, o_ifne, o_iinc, o_iload, o_imul, o_iret, o_istore, o_isub, o_putI, k0, hu0]
    try simp +contextual (disch := omega) only [impF, impT, and_true, true_and, implies_true, not_false_eq_true, not_true_eq_false]
    rw [← hQ]
    exact ⟨rfl, hM0, MF.rf⟩
  · rw [List.concat_eq_append] at hLB
    have hne : sHs s ≠ [] := by rw [hLB]; simp
    rw [fUndo, if_neg hne, hLB] at hQ
    simp only [List.dropLast_concat, List.getLast?_append, List.getLast?_singleton, Option.some_or, Option.getD_some] at hQ
    rw [hLB] at hu hl10 hst
    obtain ⟨hmB, hB⟩ := hst L.length B (by simp)
    have hlL : L.length ≤ 9 := by simp at hl10; omega
    have hu1 : gI h 93 2 = (L.length : Int) + 1 := by rw [hu]; simp
    have hlo : ∀ (d i : Nat) (g : Nat → Int), i + d = 1410 → (∀ j, j < i → g j = gI h 95 (1410 * L.length + j)) → z_X l G mtX8_undo lv 0 0 (QQ) 0 0 (sA (sI h 93 2 (L.length : Int)) 94 g) 22 [vR 93, vI i] [] := by
      intro d
      induction d with
      | zero =>
        intro i g hi hg
        have f2 : Fr (fun c => c = 93 ∨ c = 94 ∨ c = 95) h (sA (sI h 93 2 (L.length : Int)) 94 g) := (Fr.sI (fun c => c = 93 ∨ c = 94 ∨ c = 95) _ _ _ _ (Or.inl rfl)).tr' (Fr.sA (fun c => c = 93 ∨ c = 94 ∨ c = 95) _ _ _ (Or.inr (Or.inl rfl))) (fun _ q => q) (fun _ q => q)
        have e2 : gI (sI h 93 2 (L.length : Int)) 93 2 = (L.length : Int) := mI_s1 _ _ _ _
        have hH2 : MHi (sA (sI h 93 2 (L.length : Int)) 94 g) L := by
          refine ⟨by rw [mA_s2 _ _ _ (by omega)]; exact e2, by omega, fun j A hj => ?_⟩
          have hjl := (List.getElem?_eq_some_iff.mp hj).1
          obtain ⟨g1, g2⟩ := hst j A (by rw [List.getElem?_append_left hjl]; exact hj)
          exact ⟨g1.c g2 (fun k hk => by rw [mA_s2 _ _ _ (by omega), mI_s2 _ _ (Or.inl (by omega))]), g2⟩
        have fin := hM0.cell f2 rfl (A' := B) (by rw [mI_sAs]; exact hmB.c hB (fun k hk => hg k (by omega))) hB hH2 (by rw [mA_s2 _ _ _ (by omega), mI_s2 _ _ (Or.inr (by omega))])
        refine z_run1 tsX8_undo [] 20 ?_
        simp (maxSteps := 1000000) -implicitDefEqProofs +contextual (disch := omega) only [z_wp_t, z_wp_u, ↓pI_e, ↓pL_e, ↓pO_e, ↓pR_e, ↓p1_I, ↓p1_O, z_gl, z_st1, z_st2, z_nl_I, z_nl_O, z_nl_J, z_nl_L, if_true, if_false, ite_true, ite_false, true_and, and_true, List.mem_cons, List.not_mem_nil, or_false, false_or, or_self, List.length_cons, List.length_nil, InR_t, InL_t, z_ix_t, mI_s1, mI_s2, ↓brT, ↓brF, ↓brT', ↓brF', mL_sI, mR_sI, mK_sI, mS_sI, mI_sL, mL_s1, mL_s2, mR_sL, mK_sL, mS_sL, mI_sR, mL_sR, mR_s1, mR_s2, mK_sR, mS_sR, mA_s1, mA_s2, mL_sA, mR_sA, mK_sA, mS_sA, ix_n, ix_a, ix_m, ix_s, z_sw, z_stop, forall_const, true_implies, false_implies, imp_self, implies_true, not_true_eq_false, not_false_eq_true, ne_eq, eq_self, Option.some.injEq, reduceCtorEq, Nat.reduceAdd, Nat.reduceSub, Nat.reduceMul, Nat.reduceEqDiff, Nat.reduceLT, Nat.reduceLeDiff, Int.reduceAdd, Int.reduceMul, Int.reduceSub, Int.reduceNeg, Int.reduceToNat, Int.reduceLT, Int.reduceLE, Int.reduceEq, ↓reduceIte, List.reverse_cons, Option.toList, List.cons_append, List.nil_append, vI_inj, vL_inj, vO_inj, rI, rL, rO, rV, mI_sQ, mL_sQ, mK_sQ, mS_sQ, mQ_s1, mQ_s2, iL_and, iL_or, iL_xor, iL_shl, iL_ushr, iR_and, iR_or, iR_xor, iR_shl, iR_shr, iR_ushr, iR_cmp, yc0, tlX8_undo, o_aload, o_dup, o_getI, o_getR, o_goto, o_iadd, o_iald, o_iast, o_ic, o_icge, o_ifne, o_iinc, o_iload, o_imul, o_iret, o_istore, o_isub, o_putI, k0]
        try simp +contextual (disch := omega) only [impF, impT, and_true, true_and, implies_true, not_false_eq_true, not_true_eq_false]
        rw [← hQ]
        exact ⟨rfl, fin.1, fin.2⟩
      | succ d ih =>
        intro i g hi hg
        have hnx := ih (i + 1) (up g i (gI h 95 (1410 * L.length + i))) (by omega) (fun j hj => by
          by_cases e : j = i
          · rw [e, up_s]
          · rw [up_n _ _ e]; exact hg j (by omega))
        refine z_run1 tsX8_undo [22] 40 ?_
        simp (maxSteps := 1000000) -implicitDefEqProofs +contextual (disch := omega) only [z_wp_t, z_wp_u, ↓pI_e, ↓pL_e, ↓pO_e, ↓pR_e, ↓p1_I, ↓p1_O, z_gl, z_st1, z_st2, z_nl_I, z_nl_O, z_nl_J, z_nl_L, if_true, if_false, ite_true, ite_false, true_and, and_true, List.mem_cons, List.not_mem_nil, or_false, false_or, or_self, List.length_cons, List.length_nil, InR_t, InL_t, z_ix_t, mI_s1, mI_s2, ↓brT, ↓brF, ↓brT', ↓brF', mL_sI, mR_sI, mK_sI, mS_sI, mI_sL, mL_s1, mL_s2, mR_sL, mK_sL, mS_sL, mI_sR, mL_sR, mR_s1, mR_s2, mK_sR, mS_sR, mA_s1, mA_s2, mL_sA, mR_sA, mK_sA, mS_sA, ix_n, ix_a, ix_m, ix_s, z_sw, z_stop, forall_const, true_implies, false_implies, imp_self, implies_true, not_true_eq_false, not_false_eq_true, ne_eq, eq_self, Option.some.injEq, reduceCtorEq, Nat.reduceAdd, Nat.reduceSub, Nat.reduceMul, Nat.reduceEqDiff, Nat.reduceLT, Nat.reduceLeDiff, Int.reduceAdd, Int.reduceMul, Int.reduceSub, Int.reduceNeg, Int.reduceToNat, Int.reduceLT, Int.reduceLE, Int.reduceEq, ↓reduceIte, List.reverse_cons, Option.toList, List.cons_append, List.nil_append, vI_inj, vL_inj, vO_inj, rI, rL, rO, rV, mI_sQ, mL_sQ, mK_sQ, mS_sQ, mQ_s1, mQ_s2, iL_and, iL_or, iL_xor, iL_shl, iL_ushr, iR_and, iR_or, iR_xor, iR_shl, iR_shr, iR_ushr, iR_cmp, yc0, tlX8_undo, o_aload, o_dup, o_getI, o_getR, o_goto, o_iadd, o_iald, o_iast, o_ic, o_icge, o_ifne, o_iinc, o_iload, o_imul, o_iret, o_istore, o_isub, o_putI, k0, k94, k95, r0, r1, sI_sA]
        try simp +contextual (disch := omega) only [impF, impT, and_true, true_and, implies_true, not_false_eq_true, not_true_eq_false]
        exact hnx
    have h0 := hlo 1410 0 (gI (sI h 93 2 (L.length : Int)) 94) (by omega) (fun j hj => by omega)
    rw [sA_self] at h0
    have ec : (L.length : Int) + 1 - 1 = (L.length : Int) := by omega
    refine z_run1 tsX8_undo [22] 30 ?_
    simp (maxSteps := 1000000) -implicitDefEqProofs +contextual (disch := omega) only [z_wp_t, z_wp_u, ↓pI_e, ↓pL_e, ↓pO_e, ↓pR_e, ↓p1_I, ↓p1_O, z_gl, z_st1, z_st2, z_nl_I, z_nl_O, z_nl_J, z_nl_L, if_true, if_false, ite_true, ite_false, true_and, and_true, List.mem_cons, List.not_mem_nil, or_false, false_or, or_self, List.length_cons, List.length_nil, InR_t, InL_t, z_ix_t, mI_s1, mI_s2, ↓brT, ↓brF, ↓brT', ↓brF', mL_sI, mR_sI, mK_sI, mS_sI, mI_sL, mL_s1, mL_s2, mR_sL, mK_sL, mS_sL, mI_sR, mL_sR, mR_s1, mR_s2, mK_sR, mS_sR, mA_s1, mA_s2, mL_sA, mR_sA, mK_sA, mS_sA, ix_n, ix_a, ix_m, ix_s, z_sw, z_stop, forall_const, true_implies, false_implies, imp_self, implies_true, not_true_eq_false, not_false_eq_true, ne_eq, eq_self, Option.some.injEq, reduceCtorEq, Nat.reduceAdd, Nat.reduceSub, Nat.reduceMul, Nat.reduceEqDiff, Nat.reduceLT, Nat.reduceLeDiff, Int.reduceAdd, Int.reduceMul, Int.reduceSub, Int.reduceNeg, Int.reduceToNat, Int.reduceLT, Int.reduceLE, Int.reduceEq, ↓reduceIte, List.reverse_cons, Option.toList, List.cons_append, List.nil_append, vI_inj, vL_inj, vO_inj, rI, rL, rO, rV, mI_sQ, mL_sQ, mK_sQ, mS_sQ, mQ_s1, mQ_s2, iL_and, iL_or, iL_xor, iL_shl, iL_ushr, iR_and, iR_or, iR_xor, iR_shl, iR_shr, iR_ushr, iR_cmp, yc0, tlX8_undo, o_aload, o_dup, o_getI, o_getR, o_goto, o_iadd, o_iald, o_iast, o_ic, o_icge, o_ifne, o_iinc, o_iload, o_imul, o_iret, o_istore, o_isub, o_putI, k0, hu1, ec]
    try simp +contextual (disch := omega) only [impF, impT, and_true, true_and, implies_true, not_false_eq_true, not_true_eq_false]
    exact h0
set_option maxHeartbeats 4000000 in
theorem sm_type (l : Launch) (G : zG) (h : zH) (s : zS) (c : Int) (hM : MI h s) (hc : InR c) (lv : Nat) (hlv : 2 ≤ lv) : z_Sp l G mtX8_type lv 0 0 [vR 93, vI c] (h) (mQ h (fType s c)) := by
  refine x_enter [vR 93, vI c] (by decide +kernel) (by omega) rfl (Nat.le_of_ble_eq_true rfl) ?_
  generalize hQ : mQ h (fType s c) = QQ
  have hM0 := hM
  obtain ⟨hS, hm, hH, ⟨t1, t2, t3, t4⟩, hA⟩ := hM
  have hS0 := hS
  obtain ⟨k0, ⟨k94, k95, k96, -⟩, -, ⟨r0, r1, r3, -⟩, -⟩ := hS
  refine z_run1 tsX8_type [] 20 ?_
  simp (maxSteps := 1000000) -implicitDefEqProofs +contextual (disch := omega) only [z_wp_t, z_wp_u, ↓pI_e, ↓pL_e, ↓pO_e, ↓pR_e, ↓p1_I, ↓p1_O, z_gl, z_st1, z_st2, z_nl_I, z_nl_O, z_nl_J, z_nl_L, if_true, if_false, ite_true, ite_false, true_and, and_true, List.mem_cons, List.not_mem_nil, or_false, false_or, or_self, List.length_cons, List.length_nil, InR_t, InL_t, z_ix_t, mI_s1, mI_s2, ↓brT, ↓brF, ↓brT', ↓brF', mL_sI, mR_sI, mK_sI, mS_sI, mI_sL, mL_s1, mL_s2, mR_sL, mK_sL, mS_sL, mI_sR, mL_sR, mR_s1, mR_s2, mK_sR, mS_sR, mA_s1, mA_s2, mL_sA, mR_sA, mK_sA, mS_sA, ix_n, ix_a, ix_m, ix_s, z_sw, z_stop, forall_const, true_implies, false_implies, imp_self, implies_true, not_true_eq_false, not_false_eq_true, ne_eq, eq_self, Option.some.injEq, reduceCtorEq, Nat.reduceAdd, Nat.reduceSub, Nat.reduceMul, Nat.reduceEqDiff, Nat.reduceLT, Nat.reduceLeDiff, Int.reduceAdd, Int.reduceMul, Int.reduceSub, Int.reduceNeg, Int.reduceToNat, Int.reduceLT, Int.reduceLE, Int.reduceEq, ↓reduceIte, List.reverse_cons, Option.toList, List.cons_append, List.nil_append, vI_inj, vL_inj, vO_inj, rI, rL, rO, rV, mI_sQ, mL_sQ, mK_sQ, mS_sQ, mQ_s1, mQ_s2, iL_and, iL_or, iL_xor, iL_shl, iL_ushr, iR_and, iR_or, iR_xor, iR_shl, iR_shr, iR_ushr, iR_cmp, yc0, tlX8_type, tkX8_type, o_aload, o_dup, o_getI, o_getR, o_iadd, o_iast, o_ic, o_icne, o_ifne, o_iload, o_iret, o_putI]
  try simp +contextual (disch := omega) only [impF, impT, and_true, true_and, implies_true, not_false_eq_true, not_true_eq_false]
  refine x_callS (by decide +kernel) cv_X8_56 (sm_in l G h c 0 127 hc (by unfold InR; omega) (by unfold InR; omega) 1 (by omega)) (by omega) rfl (by omega) (by omega) rfl (Nat.le_of_ble_eq_true rfl) ?_
  rintro r h' ⟨rfl, hE⟩
  subst h'
  by_cases hcr : 0 ≤ c ∧ c ≤ 127
  · rw [if_pos hcr]
    rw [fType, if_pos hcr] at hQ
    by_cases h40 : 40 ≤ sTn s
    · rw [if_pos h40] at hQ
      have e4 : gI h 93 4 = 40 := by rw [t1]; omega
      refine z_run1 tsX8_type [] 20 ?_
      simp (maxSteps := 1000000) -implicitDefEqProofs +contextual (disch := omega) only [z_wp_t, z_wp_u, ↓pI_e, ↓pL_e, ↓pO_e, ↓pR_e, ↓p1_I, ↓p1_O, z_gl, z_st1, z_st2, z_nl_I, z_nl_O, z_nl_J, z_nl_L, if_true, if_false, ite_true, ite_false, true_and, and_true, List.mem_cons, List.not_mem_nil, or_false, false_or, or_self, List.length_cons, List.length_nil, InR_t, InL_t, z_ix_t, mI_s1, mI_s2, ↓brT, ↓brF, ↓brT', ↓brF', mL_sI, mR_sI, mK_sI, mS_sI, mI_sL, mL_s1, mL_s2, mR_sL, mK_sL, mS_sL, mI_sR, mL_sR, mR_s1, mR_s2, mK_sR, mS_sR, mA_s1, mA_s2, mL_sA, mR_sA, mK_sA, mS_sA, ix_n, ix_a, ix_m, ix_s, z_sw, z_stop, forall_const, true_implies, false_implies, imp_self, implies_true, not_true_eq_false, not_false_eq_true, ne_eq, eq_self, Option.some.injEq, reduceCtorEq, Nat.reduceAdd, Nat.reduceSub, Nat.reduceMul, Nat.reduceEqDiff, Nat.reduceLT, Nat.reduceLeDiff, Int.reduceAdd, Int.reduceMul, Int.reduceSub, Int.reduceNeg, Int.reduceToNat, Int.reduceLT, Int.reduceLE, Int.reduceEq, ↓reduceIte, List.reverse_cons, Option.toList, List.cons_append, List.nil_append, vI_inj, vL_inj, vO_inj, rI, rL, rO, rV, mI_sQ, mL_sQ, mK_sQ, mS_sQ, mQ_s1, mQ_s2, iL_and, iL_or, iL_xor, iL_shl, iL_ushr, iR_and, iR_or, iR_xor, iR_shl, iR_shr, iR_ushr, iR_cmp, yc0, tlX8_type, tkX8_type, o_aload, o_dup, o_getI, o_getR, o_iadd, o_iast, o_ic, o_icne, o_ifne, o_iload, o_iret, o_putI, k0, e4]
      try simp +contextual (disch := omega) only [impF, impT, and_true, true_and, implies_true, not_false_eq_true, not_true_eq_false]
      rw [← hQ]
      exact ⟨rfl, hM0, MF.rf⟩
    · rw [if_neg h40] at hQ
      have f2 : Fr (fun c => c = 93 ∨ c = 96) h (sI (sI h 96 (sTn s) c) 93 4 ((sTn s : Int) + 1)) := (Fr.sI (fun c => c = 93 ∨ c = 96) _ _ _ _ (Or.inr rfl)).tr' (Fr.sI (fun c => c = 93 ∨ c = 96) _ _ _ _ (Or.inl rfl)) (fun _ q => q) (fun _ q => q)
      have e96 : ∀ j, gI (sI (sI h 96 (sTn s) c) 93 4 ((sTn s : Int) + 1)) 96 j = if j = sTn s then c else gI h 96 j := fun j => by
        rw [mI_s2 _ _ (Or.inl (by omega)), mI_sI]
        by_cases e : j = sTn s <;> simp [e]
      have hMI : MI (sI (sI h 96 (sTn s) c) 93 4 ((sTn s : Int) + 1)) (sW s, sHs s, up (sTx s) (sTn s) c, sTn s + 1) := by
        refine ⟨hS0.of f2.K rfl, by rw [f2.I (by omega)]; exact hm, hH.o (by rw [mI_s2 _ _ (Or.inr (by omega)), mI_s2 _ _ (Or.inl (by omega))]) (f2.I (by omega)), ⟨mI_s1 _ _ _ _, by show sTn s + 1 ≤ 40; omega, fun i hi => ?_, fun i hi => ?_⟩, hA⟩
        · have hi : i < sTn s + 1 := hi
          rw [e96]
          show _ = up (sTx s) (sTn s) c i
          by_cases e : i = sTn s
          · rw [if_pos e, e, up_s]
          · rw [if_neg e, up_n _ _ e]; exact t3 i (by omega)
        · have hi : i < sTn s + 1 := hi
          show 0 ≤ up (sTx s) (sTn s) c i ∧ up (sTx s) (sTn s) c i ≤ 127
          by_cases e : i = sTn s
          · rw [e, up_s]; exact hcr
          · rw [up_n _ _ e]; exact t4 i (by omega)
      refine z_run1 tsX8_type [] 40 ?_
      simp (maxSteps := 1000000) -implicitDefEqProofs +contextual (disch := omega) only [z_wp_t, z_wp_u, ↓pI_e, ↓pL_e, ↓pO_e, ↓pR_e, ↓p1_I, ↓p1_O, z_gl, z_st1, z_st2, z_nl_I, z_nl_O, z_nl_J, z_nl_L, if_true, if_false, ite_true, ite_false, true_and, and_true, List.mem_cons, List.not_mem_nil, or_false, false_or, or_self, List.length_cons, List.length_nil, InR_t, InL_t, z_ix_t, mI_s1, mI_s2, ↓brT, ↓brF, ↓brT', ↓brF', mL_sI, mR_sI, mK_sI, mS_sI, mI_sL, mL_s1, mL_s2, mR_sL, mK_sL, mS_sL, mI_sR, mL_sR, mR_s1, mR_s2, mK_sR, mS_sR, mA_s1, mA_s2, mL_sA, mR_sA, mK_sA, mS_sA, ix_n, ix_a, ix_m, ix_s, z_sw, z_stop, forall_const, true_implies, false_implies, imp_self, implies_true, not_true_eq_false, not_false_eq_true, ne_eq, eq_self, Option.some.injEq, reduceCtorEq, Nat.reduceAdd, Nat.reduceSub, Nat.reduceMul, Nat.reduceEqDiff, Nat.reduceLT, Nat.reduceLeDiff, Int.reduceAdd, Int.reduceMul, Int.reduceSub, Int.reduceNeg, Int.reduceToNat, Int.reduceLT, Int.reduceLE, Int.reduceEq, ↓reduceIte, List.reverse_cons, Option.toList, List.cons_append, List.nil_append, vI_inj, vL_inj, vO_inj, rI, rL, rO, rV, mI_sQ, mL_sQ, mK_sQ, mS_sQ, mQ_s1, mQ_s2, iL_and, iL_or, iL_xor, iL_shl, iL_ushr, iR_and, iR_or, iR_xor, iR_shl, iR_shr, iR_ushr, iR_cmp, yc0, tlX8_type, tkX8_type, o_aload, o_dup, o_getI, o_getR, o_iadd, o_iast, o_ic, o_icne, o_ifne, o_iload, o_iret, o_putI, k0, k96, r3, t1]
      try simp +contextual (disch := omega) only [impF, impT, and_true, true_and, implies_true, not_false_eq_true, not_true_eq_false]
      rw [← hQ]
      exact ⟨rfl, hMI, MF.of f2 rfl (fun c q => by omega)⟩
  · rw [if_neg hcr]
    rw [fType, if_neg hcr] at hQ
    refine z_run1 tsX8_type [] 20 ?_
    simp (maxSteps := 1000000) -implicitDefEqProofs +contextual (disch := omega) only [z_wp_t, z_wp_u, ↓pI_e, ↓pL_e, ↓pO_e, ↓pR_e, ↓p1_I, ↓p1_O, z_gl, z_st1, z_st2, z_nl_I, z_nl_O, z_nl_J, z_nl_L, if_true, if_false, ite_true, ite_false, true_and, and_true, List.mem_cons, List.not_mem_nil, or_false, false_or, or_self, List.length_cons, List.length_nil, InR_t, InL_t, z_ix_t, mI_s1, mI_s2, ↓brT, ↓brF, ↓brT', ↓brF', mL_sI, mR_sI, mK_sI, mS_sI, mI_sL, mL_s1, mL_s2, mR_sL, mK_sL, mS_sL, mI_sR, mL_sR, mR_s1, mR_s2, mK_sR, mS_sR, mA_s1, mA_s2, mL_sA, mR_sA, mK_sA, mS_sA, ix_n, ix_a, ix_m, ix_s, z_sw, z_stop, forall_const, true_implies, false_implies, imp_self, implies_true, not_true_eq_false, not_false_eq_true, ne_eq, eq_self, Option.some.injEq, reduceCtorEq, Nat.reduceAdd, Nat.reduceSub, Nat.reduceMul, Nat.reduceEqDiff, Nat.reduceLT, Nat.reduceLeDiff, Int.reduceAdd, Int.reduceMul, Int.reduceSub, Int.reduceNeg, Int.reduceToNat, Int.reduceLT, Int.reduceLE, Int.reduceEq, ↓reduceIte, List.reverse_cons, Option.toList, List.cons_append, List.nil_append, vI_inj, vL_inj, vO_inj, rI, rL, rO, rV, mI_sQ, mL_sQ, mK_sQ, mS_sQ, mQ_s1, mQ_s2, iL_and, iL_or, iL_xor, iL_shl, iL_ushr, iR_and, iR_or, iR_xor, iR_shl, iR_shr, iR_ushr, iR_cmp, yc0, tlX8_type, tkX8_type, o_aload, o_dup, o_getI, o_getR, o_iadd, o_iast, o_ic, o_icne, o_ifne, o_iload, o_iret, o_putI]
    try simp +contextual (disch := omega) only [impF, impT, and_true, true_and, implies_true, not_false_eq_true, not_true_eq_false]
    rw [← hQ]
    exact ⟨rfl, hM0, MF.rf⟩
theorem MI.clr {h : zH} {s : zS} (hM : MI h s) : MI (sI h 93 4 0) (sW s, sHs s, sTx s, 0) ∧ MF h (sI h 93 4 0) := by
  obtain ⟨hS, hm, hH, ⟨t1, t2, t3, t4⟩, hA⟩ := hM
  have f : Fr (fun c => c = 93) h (sI h 93 4 0) := Fr_I1 _ _ _ _
  exact ⟨⟨hS.of f.K rfl, by rw [f.I (by omega)]; exact hm, hH.o (by rw [mI_s2 _ _ (Or.inr (by omega))]) (f.I (by omega)), ⟨by rw [mI_s1]; rfl, by show 0 ≤ 40; omega, fun i hi => absurd hi (Nat.not_lt_zero i), fun i hi => absurd hi (Nat.not_lt_zero i)⟩, hA⟩, MF.of f rfl (fun c q => by omega)⟩
set_option maxHeartbeats 4000000 in
theorem sm_clearText (l : Launch) (G : zG) (h : zH) (s : zS) (hM : MI h s) (lv : Nat) (hlv : 1 ≤ lv) : z_Sp l G mtX8_clearText lv 0 0 [vR 93] (h) (mQ h (fClear s)) := by
  refine x_enter [vR 93, vJ] (by decide +kernel) (by omega) rfl (Nat.le_of_ble_eq_true rfl) ?_
  generalize hQ : mQ h (fClear s) = QQ
  have k0 := hM.1.1
  have t1 := hM.2.2.2.1.1
  have fin := hM.clr
  refine z_run1 tsX8_clearText [] 20 ?_
  simp (maxSteps := 1000000) -implicitDefEqProofs +contextual (disch := omega) only [z_wp_t, z_wp_u, ↓pI_e, ↓pL_e, ↓pO_e, ↓pR_e, ↓p1_I, ↓p1_O, z_gl, z_st1, z_st2, z_nl_I, z_nl_O, z_nl_J, z_nl_L, if_true, if_false, ite_true, ite_false, true_and, and_true, List.mem_cons, List.not_mem_nil, or_false, false_or, or_self, List.length_cons, List.length_nil, InR_t, InL_t, z_ix_t, mI_s1, mI_s2, ↓brT, ↓brF, ↓brT', ↓brF', mL_sI, mR_sI, mK_sI, mS_sI, mI_sL, mL_s1, mL_s2, mR_sL, mK_sL, mS_sL, mI_sR, mL_sR, mR_s1, mR_s2, mK_sR, mS_sR, mA_s1, mA_s2, mL_sA, mR_sA, mK_sA, mS_sA, ix_n, ix_a, ix_m, ix_s, z_sw, z_stop, forall_const, true_implies, false_implies, imp_self, implies_true, not_true_eq_false, not_false_eq_true, ne_eq, eq_self, Option.some.injEq, reduceCtorEq, Nat.reduceAdd, Nat.reduceSub, Nat.reduceMul, Nat.reduceEqDiff, Nat.reduceLT, Nat.reduceLeDiff, Int.reduceAdd, Int.reduceMul, Int.reduceSub, Int.reduceNeg, Int.reduceToNat, Int.reduceLT, Int.reduceLE, Int.reduceEq, ↓reduceIte, List.reverse_cons, Option.toList, List.cons_append, List.nil_append, vI_inj, vL_inj, vO_inj, rI, rL, rO, rV, mI_sQ, mL_sQ, mK_sQ, mS_sQ, mQ_s1, mQ_s2, iL_and, iL_or, iL_xor, iL_shl, iL_ushr, iR_and, iR_or, iR_xor, iR_shl, iR_shr, iR_ushr, iR_cmp, yc0, tlX8_clearText, o_aload, o_getI, o_ic, o_iload, o_iret, o_istore, o_putI, k0, t1]
  try simp +contextual (disch := omega) only [impF, impT, and_true, true_and, implies_true, not_false_eq_true, not_true_eq_false]
  rw [← hQ]
  exact ⟨rfl, fin.1, fin.2⟩
set_option maxRecDepth 4000 in
set_option maxHeartbeats 4000000 in
theorem sm_drop (l : Launch) (G : zG) (h : zH) (s : zS) (r : Int) (hM : MI h s) (hr : InR r) (lv : Nat) (hlv : 2 ≤ lv) : z_Sp l G mtX8_drop lv 0 0 [vR 93, vI r] (h) (mQ h (fDrop s r)) := by
  refine x_enter [vR 93, vI r, vJ] (by decide +kernel) (by omega) rfl (Nat.le_of_ble_eq_true rfl) ?_
  generalize hQ : mQ h (fDrop s r) = QQ
  have hM0 := hM
  obtain ⟨hS, hm, hH, hT, hA⟩ := hM
  have hS0 := hS
  obtain ⟨k0, ⟨k94, -⟩, -, ⟨r0, -⟩, -⟩ := hS
  have e49 := hm.2.2.2.2.1
  have h20 := hA.2.2.2.2.1
  refine z_run1 tsX8_drop [] 20 ?_
  simp (maxSteps := 1000000) -implicitDefEqProofs +contextual (disch := omega) only [z_wp_t, z_wp_u, ↓pI_e, ↓pL_e, ↓pO_e, ↓pR_e, ↓p1_I, ↓p1_O, z_gl, z_st1, z_st2, z_nl_I, z_nl_O, z_nl_J, z_nl_L, if_true, if_false, ite_true, ite_false, true_and, and_true, List.mem_cons, List.not_mem_nil, or_false, false_or, or_self, List.length_cons, List.length_nil, InR_t, InL_t, z_ix_t, mI_s1, mI_s2, ↓brT, ↓brF, ↓brT', ↓brF', mL_sI, mR_sI, mK_sI, mS_sI, mI_sL, mL_s1, mL_s2, mR_sL, mK_sL, mS_sL, mI_sR, mL_sR, mR_s1, mR_s2, mK_sR, mS_sR, mA_s1, mA_s2, mL_sA, mR_sA, mK_sA, mS_sA, ix_n, ix_a, ix_m, ix_s, z_sw, z_stop, forall_const, true_implies, false_implies, imp_self, implies_true, not_true_eq_false, not_false_eq_true, ne_eq, eq_self, Option.some.injEq, reduceCtorEq, Nat.reduceAdd, Nat.reduceSub, Nat.reduceMul, Nat.reduceEqDiff, Nat.reduceLT, Nat.reduceLeDiff, Int.reduceAdd, Int.reduceMul, Int.reduceSub, Int.reduceNeg, Int.reduceToNat, Int.reduceLT, Int.reduceLE, Int.reduceEq, ↓reduceIte, List.reverse_cons, Option.toList, List.cons_append, List.nil_append, vI_inj, vL_inj, vO_inj, rI, rL, rO, rV, mI_sQ, mL_sQ, mK_sQ, mS_sQ, mQ_s1, mQ_s2, iL_and, iL_or, iL_xor, iL_shl, iL_ushr, iR_and, iR_or, iR_xor, iR_shl, iR_shr, iR_ushr, iR_cmp, yc0, tlX8_drop, tkX8_drop, o_aload, o_dup2, o_getR, o_goto, o_iadd, o_iald, o_iast, o_ic, o_icge, o_ifne, o_iinc, o_iload, o_imul, o_iret, o_istore, o_isub, k0, k94, r0, e49]
  try simp +contextual (disch := omega) only [impF, impT, and_true, true_and, implies_true, not_false_eq_true, not_true_eq_false]
  refine x_callS (by decide +kernel) cv_X8_56 (sm_in l G h r 0 ((aC (sW s) : Int) - 1) hr (by unfold InR; omega) (by unfold InR; omega) 1 (by omega)) (by omega) rfl (by omega) (by omega) rfl (Nat.le_of_ble_eq_true rfl) ?_
  rintro r' h' ⟨rfl, hE⟩
  subst h'
  by_cases hrr : 0 ≤ r ∧ r < aC (sW s)
  · rw [if_pos (show 0 ≤ r ∧ r ≤ (aC (sW s) : Int) - 1 by omega)]
    rw [fDrop, if_pos hrr] at hQ
    obtain ⟨x, rfl⟩ := Int.eq_ofNat_of_zero_le hrr.1
    rw [Int.toNat_natCast] at hQ
    have hx : x < aC (sW s) := by omega
    refine z_run1 tsX8_drop [] 20 ?_
    simp (maxSteps := 1000000) -implicitDefEqProofs +contextual (disch := omega) only [z_wp_t, z_wp_u, ↓pI_e, ↓pL_e, ↓pO_e, ↓pR_e, ↓p1_I, ↓p1_O, z_gl, z_st1, z_st2, z_nl_I, z_nl_O, z_nl_J, z_nl_L, if_true, if_false, ite_true, ite_false, true_and, and_true, List.mem_cons, List.not_mem_nil, or_false, false_or, or_self, List.length_cons, List.length_nil, InR_t, InL_t, z_ix_t, mI_s1, mI_s2, ↓brT, ↓brF, ↓brT', ↓brF', mL_sI, mR_sI, mK_sI, mS_sI, mI_sL, mL_s1, mL_s2, mR_sL, mK_sL, mS_sL, mI_sR, mL_sR, mR_s1, mR_s2, mK_sR, mS_sR, mA_s1, mA_s2, mL_sA, mR_sA, mK_sA, mS_sA, ix_n, ix_a, ix_m, ix_s, z_sw, z_stop, forall_const, true_implies, false_implies, imp_self, implies_true, not_true_eq_false, not_false_eq_true, ne_eq, eq_self, Option.some.injEq, reduceCtorEq, Nat.reduceAdd, Nat.reduceSub, Nat.reduceMul, Nat.reduceEqDiff, Nat.reduceLT, Nat.reduceLeDiff, Int.reduceAdd, Int.reduceMul, Int.reduceSub, Int.reduceNeg, Int.reduceToNat, Int.reduceLT, Int.reduceLE, Int.reduceEq, ↓reduceIte, List.reverse_cons, Option.toList, List.cons_append, List.nil_append, vI_inj, vL_inj, vO_inj, rI, rL, rO, rV, mI_sQ, mL_sQ, mK_sQ, mS_sQ, mQ_s1, mQ_s2, iL_and, iL_or, iL_xor, iL_shl, iL_ushr, iR_and, iR_or, iR_xor, iR_shl, iR_shr, iR_ushr, iR_cmp, yc0, tlX8_drop, tkX8_drop, o_aload, o_dup2, o_getR, o_goto, o_iadd, o_iald, o_iast, o_ic, o_icge, o_ifne, o_iinc, o_iload, o_imul, o_iret, o_istore, o_isub]
    try simp +contextual (disch := omega) only [impF, impT, and_true, true_and, implies_true, not_false_eq_true, not_true_eq_false]
    refine x_callV (by decide +kernel) cv_X8_75 (sm_keeps l G h (sW s) (sHs s) hS0 hm hA hH 1 (by omega)) k0 (by omega) rfl (by omega) (by omega) rfl (Nat.le_of_ble_eq_true rfl) ?_
    rintro r' h1 ⟨rfl, f1, hR1, hk1, hH1⟩
    have hS1 := hS0.of f1.K hR1
    obtain ⟨k0', ⟨k94', -⟩, -, ⟨r0', -⟩, -⟩ := hS1
    have hm1 : MA (gI h1 94) (sW s) := by rw [f1.I (by omega)]; exact hm
    have e49' := hm1.2.2.2.2.1
    generalize hcc : aC (sW s) = C at *
    have hlo : ∀ (d i : Nat) (g : Nat → Int), i + d = 50 + 68 * (C - 1) → 50 + 68 * x ≤ i → (∀ j, g j = if j = 49 then (C : Int) - 1 else if 50 + 68 * x ≤ j ∧ j < i then gI h1 94 (j + 68) else gI h1 94 j) → z_X l G mtX8_drop lv 0 0 (QQ) 0 0 (sA h1 94 g) 43 [vR 93, vI (x : Int), vI i] [] := by
      intro d
      induction d with
      | zero =>
        intro i g hi hxi hg
        have eg : g 49 = (C : Int) - 1 := by rw [hg, if_pos rfl]
        have f2 : Fr (fun c => c = 94) h1 (sA h1 94 g) := Fr.sA _ _ _ _ rfl
        have hm2 : MA (gI (sA h1 94 g) 94) (remR (sW s) x) := by
          rw [mI_sAs]
          obtain ⟨a1, a2, a3, a4, a5, a6⟩ := hm1
          have e : ∀ j, j < 50 → j ≠ 49 → g j = gI h1 94 j := fun j hj h9 => by rw [hg, if_neg h9, if_neg (by omega)]
          refine ⟨fun p hp => by rw [e _ (by omega) (by omega)]; exact a1 p hp, fun p i hp hi => by rw [e _ (by have := hA.1 p hp; have : i < aN (sW s) p := hi; omega) (by have := hA.1 p hp; have : i < aN (sW s) p := hi; omega)]; exact a2 p i hp hi, by rw [e _ (by omega) (by omega)]; exact a3, fun p hp => by rw [e _ (by omega) (by omega)]; exact a4 p hp, ?_, fun r hr => ?_⟩
          · rw [eg]
            show _ = ((aC (sW s) - 1 : Nat) : Int)
            rw [hcc]
            omega
          · have hr : r < aC (sW s) - 1 := hr
            rw [hcc] at hr
            show MRu _ (if r < x then aR (sW s) r else aR (sW s) (r + 1))
            by_cases hrx : r < x
            · rw [if_pos hrx]
              exact (a6 r (by omega)).c (fun k hk => by rw [hg, if_neg (by omega), if_neg (by omega)])
            · rw [if_neg hrx]
              refine (a6 (r + 1) (by omega)).c (fun k hk => ?_)
              rw [hg, if_neg (by omega), if_pos (by omega)]
              congr 1
              omega
        have fin := hM0.cell (f1.tr' f2 (fun c q => by omega) (fun c q => by omega)) hR1 hm2 (remR_ok hA (by omega)) (hH1.o (by rw [f2.I (by omega)]) (f2.I (by omega))) (by rw [f2.I (by omega)]; exact hk1 4 (by omega))
        refine z_run1 tsX8_drop [] 30 ?_
        simp (maxSteps := 1000000) -implicitDefEqProofs +contextual (disch := omega) only [z_wp_t, z_wp_u, ↓pI_e, ↓pL_e, ↓pO_e, ↓pR_e, ↓p1_I, ↓p1_O, z_gl, z_st1, z_st2, z_nl_I, z_nl_O, z_nl_J, z_nl_L, if_true, if_false, ite_true, ite_false, true_and, and_true, List.mem_cons, List.not_mem_nil, or_false, false_or, or_self, List.length_cons, List.length_nil, InR_t, InL_t, z_ix_t, mI_s1, mI_s2, ↓brT, ↓brF, ↓brT', ↓brF', mL_sI, mR_sI, mK_sI, mS_sI, mI_sL, mL_s1, mL_s2, mR_sL, mK_sL, mS_sL, mI_sR, mL_sR, mR_s1, mR_s2, mK_sR, mS_sR, mA_s1, mA_s2, mL_sA, mR_sA, mK_sA, mS_sA, ix_n, ix_a, ix_m, ix_s, z_sw, z_stop, forall_const, true_implies, false_implies, imp_self, implies_true, not_true_eq_false, not_false_eq_true, ne_eq, eq_self, Option.some.injEq, reduceCtorEq, Nat.reduceAdd, Nat.reduceSub, Nat.reduceMul, Nat.reduceEqDiff, Nat.reduceLT, Nat.reduceLeDiff, Int.reduceAdd, Int.reduceMul, Int.reduceSub, Int.reduceNeg, Int.reduceToNat, Int.reduceLT, Int.reduceLE, Int.reduceEq, ↓reduceIte, List.reverse_cons, Option.toList, List.cons_append, List.nil_append, vI_inj, vL_inj, vO_inj, rI, rL, rO, rV, mI_sQ, mL_sQ, mK_sQ, mS_sQ, mQ_s1, mQ_s2, iL_and, iL_or, iL_xor, iL_shl, iL_ushr, iR_and, iR_or, iR_xor, iR_shl, iR_shr, iR_ushr, iR_cmp, yc0, tlX8_drop, tkX8_drop, o_aload, o_dup2, o_getR, o_goto, o_iadd, o_iald, o_iast, o_ic, o_icge, o_ifne, o_iinc, o_iload, o_imul, o_iret, o_istore, o_isub, k0', k94', r0', eg]
        try simp +contextual (disch := omega) only [impF, impT, and_true, true_and, implies_true, not_false_eq_true, not_true_eq_false]
        rw [← hQ]
        exact ⟨rfl, fin.1, fin.2⟩
      | succ d ih =>
        intro i g hi hxi hg
        have eg : g 49 = (C : Int) - 1 := by rw [hg, if_pos rfl]
        have e1 : g (i + 68) = gI h1 94 (i + 68) := by rw [hg, if_neg (by omega), if_neg (by omega)]
        have hnx := ih (i + 1) (up g i (gI h1 94 (i + 68))) (by omega) (by omega) (fun j => by
          by_cases e : j = i
          · rw [e, up_s, if_neg (by omega), if_pos (by omega)]
          · rw [up_n _ _ e, hg]
            by_cases e9 : j = 49
            · rw [if_pos e9, if_pos e9]
            · rw [if_neg e9, if_neg e9]
              by_cases e2 : 50 + 68 * x ≤ j ∧ j < i
              · rw [if_pos e2, if_pos (by omega)]
              · rw [if_neg e2, if_neg (by omega)])
        refine z_run1 tsX8_drop [43] 40 ?_
        simp (maxSteps := 1000000) -implicitDefEqProofs +contextual (disch := omega) only [z_wp_t, z_wp_u, ↓pI_e, ↓pL_e, ↓pO_e, ↓pR_e, ↓p1_I, ↓p1_O, z_gl, z_st1, z_st2, z_nl_I, z_nl_O, z_nl_J, z_nl_L, if_true, if_false, ite_true, ite_false, true_and, and_true, List.mem_cons, List.not_mem_nil, or_false, false_or, or_self, List.length_cons, List.length_nil, InR_t, InL_t, z_ix_t, mI_s1, mI_s2, ↓brT, ↓brF, ↓brT', ↓brF', mL_sI, mR_sI, mK_sI, mS_sI, mI_sL, mL_s1, mL_s2, mR_sL, mK_sL, mS_sL, mI_sR, mL_sR, mR_s1, mR_s2, mK_sR, mS_sR, mA_s1, mA_s2, mL_sA, mR_sA, mK_sA, mS_sA, ix_n, ix_a, ix_m, ix_s, z_sw, z_stop, forall_const, true_implies, false_implies, imp_self, implies_true, not_true_eq_false, not_false_eq_true, ne_eq, eq_self, Option.some.injEq, reduceCtorEq, Nat.reduceAdd, Nat.reduceSub, Nat.reduceMul, Nat.reduceEqDiff, Nat.reduceLT, Nat.reduceLeDiff, Int.reduceAdd, Int.reduceMul, Int.reduceSub, Int.reduceNeg, Int.reduceToNat, Int.reduceLT, Int.reduceLE, Int.reduceEq, ↓reduceIte, List.reverse_cons, Option.toList, List.cons_append, List.nil_append, vI_inj, vL_inj, vO_inj, rI, rL, rO, rV, mI_sQ, mL_sQ, mK_sQ, mS_sQ, mQ_s1, mQ_s2, iL_and, iL_or, iL_xor, iL_shl, iL_ushr, iR_and, iR_or, iR_xor, iR_shl, iR_shr, iR_ushr, iR_cmp, yc0, tlX8_drop, tkX8_drop, o_aload, o_dup2, o_getR, o_goto, o_iadd, o_iald, o_iast, o_ic, o_icge, o_ifne, o_iinc, o_iload, o_imul, o_iret, o_istore, o_isub, k0', k94', r0', eg, e1, sI_sA]
        try simp +contextual (disch := omega) only [impF, impT, and_true, true_and, implies_true, not_false_eq_true, not_true_eq_false]
        exact hnx
    have h0 := hlo (50 + 68 * (C - 1) - (50 + 68 * x)) (50 + 68 * x) (up (gI h1 94) 49 ((C : Int) - 1)) (by omega) (Nat.le_refl _) (fun j => by
      by_cases e : j = 49
      · rw [e, up_s, if_pos rfl]
      · rw [up_n _ _ e, if_neg e, if_neg (by omega)])
    rw [← sI_eq] at h0
    refine z_run1 tsX8_drop [43] 30 ?_
    simp (maxSteps := 1000000) -implicitDefEqProofs +contextual (disch := omega) only [z_wp_t, z_wp_u, ↓pI_e, ↓pL_e, ↓pO_e, ↓pR_e, ↓p1_I, ↓p1_O, z_gl, z_st1, z_st2, z_nl_I, z_nl_O, z_nl_J, z_nl_L, if_true, if_false, ite_true, ite_false, true_and, and_true, List.mem_cons, List.not_mem_nil, or_false, false_or, or_self, List.length_cons, List.length_nil, InR_t, InL_t, z_ix_t, mI_s1, mI_s2, ↓brT, ↓brF, ↓brT', ↓brF', mL_sI, mR_sI, mK_sI, mS_sI, mI_sL, mL_s1, mL_s2, mR_sL, mK_sL, mS_sL, mI_sR, mL_sR, mR_s1, mR_s2, mK_sR, mS_sR, mA_s1, mA_s2, mL_sA, mR_sA, mK_sA, mS_sA, ix_n, ix_a, ix_m, ix_s, z_sw, z_stop, forall_const, true_implies, false_implies, imp_self, implies_true, not_true_eq_false, not_false_eq_true, ne_eq, eq_self, Option.some.injEq, reduceCtorEq, Nat.reduceAdd, Nat.reduceSub, Nat.reduceMul, Nat.reduceEqDiff, Nat.reduceLT, Nat.reduceLeDiff, Int.reduceAdd, Int.reduceMul, Int.reduceSub, Int.reduceNeg, Int.reduceToNat, Int.reduceLT, Int.reduceLE, Int.reduceEq, ↓reduceIte, List.reverse_cons, Option.toList, List.cons_append, List.nil_append, vI_inj, vL_inj, vO_inj, rI, rL, rO, rV, mI_sQ, mL_sQ, mK_sQ, mS_sQ, mQ_s1, mQ_s2, iL_and, iL_or, iL_xor, iL_shl, iL_ushr, iR_and, iR_or, iR_xor, iR_shl, iR_shr, iR_ushr, iR_cmp, yc0, tlX8_drop, tkX8_drop, o_aload, o_dup2, o_getR, o_goto, o_iadd, o_iald, o_iast, o_ic, o_icge, o_ifne, o_iinc, o_iload, o_imul, o_iret, o_istore, o_isub, k0', k94', r0', e49']
    try simp +contextual (disch := omega) only [impF, impT, and_true, true_and, implies_true, not_false_eq_true, not_true_eq_false]
    refine x_wk [vR 93, vI (x : Int), vI ((50 + 68 * x : Nat) : Int)] (by simp [z_wk]) ?_
    exact h0
  · rw [if_neg (show ¬ (0 ≤ r ∧ r ≤ (aC (sW s) : Int) - 1) by omega)]
    rw [fDrop, if_neg hrr] at hQ
    refine z_run1 tsX8_drop [] 20 ?_
    simp (maxSteps := 1000000) -implicitDefEqProofs +contextual (disch := omega) only [z_wp_t, z_wp_u, ↓pI_e, ↓pL_e, ↓pO_e, ↓pR_e, ↓p1_I, ↓p1_O, z_gl, z_st1, z_st2, z_nl_I, z_nl_O, z_nl_J, z_nl_L, if_true, if_false, ite_true, ite_false, true_and, and_true, List.mem_cons, List.not_mem_nil, or_false, false_or, or_self, List.length_cons, List.length_nil, InR_t, InL_t, z_ix_t, mI_s1, mI_s2, ↓brT, ↓brF, ↓brT', ↓brF', mL_sI, mR_sI, mK_sI, mS_sI, mI_sL, mL_s1, mL_s2, mR_sL, mK_sL, mS_sL, mI_sR, mL_sR, mR_s1, mR_s2, mK_sR, mS_sR, mA_s1, mA_s2, mL_sA, mR_sA, mK_sA, mS_sA, ix_n, ix_a, ix_m, ix_s, z_sw, z_stop, forall_const, true_implies, false_implies, imp_self, implies_true, not_true_eq_false, not_false_eq_true, ne_eq, eq_self, Option.some.injEq, reduceCtorEq, Nat.reduceAdd, Nat.reduceSub, Nat.reduceMul, Nat.reduceEqDiff, Nat.reduceLT, Nat.reduceLeDiff, Int.reduceAdd, Int.reduceMul, Int.reduceSub, Int.reduceNeg, Int.reduceToNat, Int.reduceLT, Int.reduceLE, Int.reduceEq, ↓reduceIte, List.reverse_cons, Option.toList, List.cons_append, List.nil_append, vI_inj, vL_inj, vO_inj, rI, rL, rO, rV, mI_sQ, mL_sQ, mK_sQ, mS_sQ, mQ_s1, mQ_s2, iL_and, iL_or, iL_xor, iL_shl, iL_ushr, iR_and, iR_or, iR_xor, iR_shl, iR_shr, iR_ushr, iR_cmp, yc0, tlX8_drop, tkX8_drop, o_aload, o_dup2, o_getR, o_goto, o_iadd, o_iald, o_iast, o_ic, o_icge, o_ifne, o_iinc, o_iload, o_imul, o_iret, o_istore, o_isub]
    try simp +contextual (disch := omega) only [impF, impT, and_true, true_and, implies_true, not_false_eq_true, not_true_eq_false]
    rw [← hQ]
    exact ⟨rfl, hM0, MF.rf⟩
