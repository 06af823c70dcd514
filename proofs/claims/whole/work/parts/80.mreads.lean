/-! the reference: pack, takesSign, feature, reads -/
theorem bl_at {l : Launch} {G : zG} {h : zH} {t : Nat → Int} {n i : Nat} {f : Int} (hR : RS h t n i f) {j : Nat} (hj : j ≤ n) (lv : Nat) (hlv : 2 ≤ lv) : z_Sp l G mtX8_blanks lv 0 0 [vR 93] (sI h 93 7 (j : Int)) (rV (sI h 93 7 (sk t n j : Int))) := by
  have := sm_blanks l G (sI h 93 7 (j : Int)) t n j f (hR.at j hj) lv hlv
  rw [sI_sI] at this
  exact this
def pkQ (h : zH) (t : Nat → Int) (n i : Nat) : Option zV → zH → Prop := fun r h' => ((97 ≤ ck t n i ∧ ck t n i ≤ 104) ∧ r = some (vI (ck t n i - 97)) ∧ h' = sI h 93 7 (sk t n (i + 1) : Int)) ∨ (¬ (97 ≤ ck t n i ∧ ck t n i ≤ 104) ∧ r = some (vI (-1)) ∧ h' = sI h 93 8 (i : Int))
set_option maxHeartbeats 4000000 in
theorem sm_pack (l : Launch) (G : zG) (h : zH) (t : Nat → Int) (n i : Nat) (hR : RS h t n i (-1)) (lv : Nat) (hlv : 3 ≤ lv) : z_Sp l G mtX8_pack lv 0 0 [vR 93] (h) (pkQ h t n i) := by
  refine x_enter [vR 93, vJ] (by decide +kernel) (by omega) rfl (Nat.le_of_ble_eq_true rfl) ?_
  generalize hQ : pkQ h t n i = QQ
  have c0 := hR.1.1
  have e7 := hR.2.2.1
  have hi := hR.2.2.2.1
  have hn := hR.n40
  have hcr := hR.ck i
  have hnx := sm_next l G h t n i (-1) hR 1 (by omega)
  have hin := sm_in l G h (ck t n i) 97 104 (by unfold InR; omega) (by unfold InR; omega) (by unfold InR; omega) 1 (by omega)
  refine z_run1 tsX8_pack [] 20 ?_
  simp (maxSteps := 1000000) -implicitDefEqProofs +contextual (disch := omega) only [z_wp_t, z_wp_u, ↓pI_e, ↓pL_e, ↓pO_e, ↓pR_e, ↓p1_I, ↓p1_O, z_gl, z_st1, z_st2, z_nl_I, z_nl_O, z_nl_J, z_nl_L, if_true, if_false, ite_true, ite_false, true_and, and_true, List.mem_cons, List.not_mem_nil, or_false, false_or, or_self, List.length_cons, List.length_nil, InR_t, InL_t, z_ix_t, mI_s1, mI_s2, ↓brT, ↓brF, ↓brT', ↓brF', mL_sI, mR_sI, mK_sI, mS_sI, mI_sL, mL_s1, mL_s2, mR_sL, mK_sL, mS_sL, mI_sR, mL_sR, mR_s1, mR_s2, mK_sR, mS_sR, mA_s1, mA_s2, mL_sA, mR_sA, mK_sA, mS_sA, ix_n, ix_a, ix_m, ix_s, z_sw, z_stop, forall_const, true_implies, false_implies, imp_self, implies_true, not_true_eq_false, not_false_eq_true, ne_eq, eq_self, Option.some.injEq, reduceCtorEq, Nat.reduceAdd, Nat.reduceSub, Nat.reduceMul, Nat.reduceEqDiff, Nat.reduceLT, Nat.reduceLeDiff, Int.reduceAdd, Int.reduceMul, Int.reduceSub, Int.reduceNeg, Int.reduceToNat, Int.reduceLT, Int.reduceLE, Int.reduceEq, ↓reduceIte, List.reverse_cons, Option.toList, List.cons_append, List.nil_append, vI_inj, vL_inj, vO_inj, rI, rL, rO, rV, mI_sQ, mL_sQ, mK_sQ, mS_sQ, mQ_s1, mQ_s2, iL_and, iL_or, iL_xor, iL_shl, iL_ushr, iR_and, iR_or, iR_xor, iR_shl, iR_shr, iR_ushr, iR_cmp, yc0, tlX8_pack, tkX8_pack, o_aload, o_dup, o_getI, o_iadd, o_ic, o_ifne, o_iload, o_iret, o_istore, o_isub, o_putI]
  try simp +contextual (disch := omega) only [impF, impT, and_true, true_and, implies_true, not_false_eq_true, not_true_eq_false]
  refine x_callV (by decide +kernel) cv_X8_91 (hnx) c0 (by omega) rfl (by omega) (by omega) rfl (Nat.le_of_ble_eq_true rfl) ?_
  rintro r h' ⟨rfl, hE⟩
  subst h'
  refine z_run1 tsX8_pack [] 20 ?_
  simp (maxSteps := 1000000) -implicitDefEqProofs +contextual (disch := omega) only [z_wp_t, z_wp_u, ↓pI_e, ↓pL_e, ↓pO_e, ↓pR_e, ↓p1_I, ↓p1_O, z_gl, z_st1, z_st2, z_nl_I, z_nl_O, z_nl_J, z_nl_L, if_true, if_false, ite_true, ite_false, true_and, and_true, List.mem_cons, List.not_mem_nil, or_false, false_or, or_self, List.length_cons, List.length_nil, InR_t, InL_t, z_ix_t, mI_s1, mI_s2, ↓brT, ↓brF, ↓brT', ↓brF', mL_sI, mR_sI, mK_sI, mS_sI, mI_sL, mL_s1, mL_s2, mR_sL, mK_sL, mS_sL, mI_sR, mL_sR, mR_s1, mR_s2, mK_sR, mS_sR, mA_s1, mA_s2, mL_sA, mR_sA, mK_sA, mS_sA, ix_n, ix_a, ix_m, ix_s, z_sw, z_stop, forall_const, true_implies, false_implies, imp_self, implies_true, not_true_eq_false, not_false_eq_true, ne_eq, eq_self, Option.some.injEq, reduceCtorEq, Nat.reduceAdd, Nat.reduceSub, Nat.reduceMul, Nat.reduceEqDiff, Nat.reduceLT, Nat.reduceLeDiff, Int.reduceAdd, Int.reduceMul, Int.reduceSub, Int.reduceNeg, Int.reduceToNat, Int.reduceLT, Int.reduceLE, Int.reduceEq, ↓reduceIte, List.reverse_cons, Option.toList, List.cons_append, List.nil_append, vI_inj, vL_inj, vO_inj, rI, rL, rO, rV, mI_sQ, mL_sQ, mK_sQ, mS_sQ, mQ_s1, mQ_s2, iL_and, iL_or, iL_xor, iL_shl, iL_ushr, iR_and, iR_or, iR_xor, iR_shl, iR_shr, iR_ushr, iR_cmp, yc0, tlX8_pack, tkX8_pack, o_aload, o_dup, o_getI, o_iadd, o_ic, o_ifne, o_iload, o_iret, o_istore, o_isub, o_putI]
  try simp +contextual (disch := omega) only [impF, impT, and_true, true_and, implies_true, not_false_eq_true, not_true_eq_false]
  refine x_callS (by decide +kernel) cv_X8_56 (hin) (by omega) rfl (by omega) (by omega) rfl (Nat.le_of_ble_eq_true rfl) ?_
  rintro r h' ⟨rfl, hE⟩
  subst h'
  by_cases q : 97 ≤ ck t n i ∧ ck t n i ≤ 104
  · rw [if_pos q]
    have hi1 : i + 1 ≤ n := ck_lt (t := t) (n := n) (i := i) (by omega)
    have hbl := bl_at (l := l) (G := G) hR hi1 2 (by omega)
    have hfin : QQ (some (vI (ck t n i - 97))) (sI h 93 7 (sk t n (i + 1) : Int)) := by rw [← hQ]; exact Or.inl ⟨q, rfl, rfl⟩
    clear hQ hnx hin
    generalize ck t n i = c at *
    refine z_run1 tsX8_pack [] 20 ?_
    simp (maxSteps := 1000000) -implicitDefEqProofs +contextual (disch := omega) only [z_wp_t, z_wp_u, ↓pI_e, ↓pL_e, ↓pO_e, ↓pR_e, ↓p1_I, ↓p1_O, z_gl, z_st1, z_st2, z_nl_I, z_nl_O, z_nl_J, z_nl_L, if_true, if_false, ite_true, ite_false, true_and, and_true, List.mem_cons, List.not_mem_nil, or_false, false_or, or_self, List.length_cons, List.length_nil, InR_t, InL_t, z_ix_t, mI_s1, mI_s2, ↓brT, ↓brF, ↓brT', ↓brF', mL_sI, mR_sI, mK_sI, mS_sI, mI_sL, mL_s1, mL_s2, mR_sL, mK_sL, mS_sL, mI_sR, mL_sR, mR_s1, mR_s2, mK_sR, mS_sR, mA_s1, mA_s2, mL_sA, mR_sA, mK_sA, mS_sA, ix_n, ix_a, ix_m, ix_s, z_sw, z_stop, forall_const, true_implies, false_implies, imp_self, implies_true, not_true_eq_false, not_false_eq_true, ne_eq, eq_self, Option.some.injEq, reduceCtorEq, Nat.reduceAdd, Nat.reduceSub, Nat.reduceMul, Nat.reduceEqDiff, Nat.reduceLT, Nat.reduceLeDiff, Int.reduceAdd, Int.reduceMul, Int.reduceSub, Int.reduceNeg, Int.reduceToNat, Int.reduceLT, Int.reduceLE, Int.reduceEq, ↓reduceIte, List.reverse_cons, Option.toList, List.cons_append, List.nil_append, vI_inj, vL_inj, vO_inj, rI, rL, rO, rV, mI_sQ, mL_sQ, mK_sQ, mS_sQ, mQ_s1, mQ_s2, iL_and, iL_or, iL_xor, iL_shl, iL_ushr, iR_and, iR_or, iR_xor, iR_shl, iR_shr, iR_ushr, iR_cmp, yc0, tlX8_pack, tkX8_pack, o_aload, o_dup, o_getI, o_iadd, o_ic, o_ifne, o_iload, o_iret, o_istore, o_isub, o_putI, c0, e7]
    try simp +contextual (disch := omega) only [impF, impT, and_true, true_and, implies_true, not_false_eq_true, not_true_eq_false]
    refine x_callV (by decide +kernel) cv_X8_108 (hbl) c0 (by omega) rfl (by omega) (by omega) rfl (Nat.le_of_ble_eq_true rfl) ?_
    rintro r h' ⟨rfl, hE⟩
    subst h'
    refine z_run1 tsX8_pack [] 20 ?_
    simp (maxSteps := 1000000) -implicitDefEqProofs +contextual (disch := omega) only [z_wp_t, z_wp_u, ↓pI_e, ↓pL_e, ↓pO_e, ↓pR_e, ↓p1_I, ↓p1_O, z_gl, z_st1, z_st2, z_nl_I, z_nl_O, z_nl_J, z_nl_L, if_true, if_false, ite_true, ite_false, true_and, and_true, List.mem_cons, List.not_mem_nil, or_false, false_or, or_self, List.length_cons, List.length_nil, InR_t, InL_t, z_ix_t, mI_s1, mI_s2, ↓brT, ↓brF, ↓brT', ↓brF', mL_sI, mR_sI, mK_sI, mS_sI, mI_sL, mL_s1, mL_s2, mR_sL, mK_sL, mS_sL, mI_sR, mL_sR, mR_s1, mR_s2, mK_sR, mS_sR, mA_s1, mA_s2, mL_sA, mR_sA, mK_sA, mS_sA, ix_n, ix_a, ix_m, ix_s, z_sw, z_stop, forall_const, true_implies, false_implies, imp_self, implies_true, not_true_eq_false, not_false_eq_true, ne_eq, eq_self, Option.some.injEq, reduceCtorEq, Nat.reduceAdd, Nat.reduceSub, Nat.reduceMul, Nat.reduceEqDiff, Nat.reduceLT, Nat.reduceLeDiff, Int.reduceAdd, Int.reduceMul, Int.reduceSub, Int.reduceNeg, Int.reduceToNat, Int.reduceLT, Int.reduceLE, Int.reduceEq, ↓reduceIte, List.reverse_cons, Option.toList, List.cons_append, List.nil_append, vI_inj, vL_inj, vO_inj, rI, rL, rO, rV, mI_sQ, mL_sQ, mK_sQ, mS_sQ, mQ_s1, mQ_s2, iL_and, iL_or, iL_xor, iL_shl, iL_ushr, iR_and, iR_or, iR_xor, iR_shl, iR_shr, iR_ushr, iR_cmp, yc0, tlX8_pack, tkX8_pack, o_aload, o_dup, o_getI, o_iadd, o_ic, o_ifne, o_iload, o_iret, o_istore, o_isub, o_putI]
    try simp +contextual (disch := omega) only [impF, impT, and_true, true_and, implies_true, not_false_eq_true, not_true_eq_false]
    exact hfin
  · rw [if_neg q]
    have hfa := sm_fails l G h t n i (-1) hR 1 (by omega)
    rw [if_pos rfl] at hfa
    refine z_run1 tsX8_pack [] 20 ?_
    simp (maxSteps := 1000000) -implicitDefEqProofs +contextual (disch := omega) only [z_wp_t, z_wp_u, ↓pI_e, ↓pL_e, ↓pO_e, ↓pR_e, ↓p1_I, ↓p1_O, z_gl, z_st1, z_st2, z_nl_I, z_nl_O, z_nl_J, z_nl_L, if_true, if_false, ite_true, ite_false, true_and, and_true, List.mem_cons, List.not_mem_nil, or_false, false_or, or_self, List.length_cons, List.length_nil, InR_t, InL_t, z_ix_t, mI_s1, mI_s2, ↓brT, ↓brF, ↓brT', ↓brF', mL_sI, mR_sI, mK_sI, mS_sI, mI_sL, mL_s1, mL_s2, mR_sL, mK_sL, mS_sL, mI_sR, mL_sR, mR_s1, mR_s2, mK_sR, mS_sR, mA_s1, mA_s2, mL_sA, mR_sA, mK_sA, mS_sA, ix_n, ix_a, ix_m, ix_s, z_sw, z_stop, forall_const, true_implies, false_implies, imp_self, implies_true, not_true_eq_false, not_false_eq_true, ne_eq, eq_self, Option.some.injEq, reduceCtorEq, Nat.reduceAdd, Nat.reduceSub, Nat.reduceMul, Nat.reduceEqDiff, Nat.reduceLT, Nat.reduceLeDiff, Int.reduceAdd, Int.reduceMul, Int.reduceSub, Int.reduceNeg, Int.reduceToNat, Int.reduceLT, Int.reduceLE, Int.reduceEq, ↓reduceIte, List.reverse_cons, Option.toList, List.cons_append, List.nil_append, vI_inj, vL_inj, vO_inj, rI, rL, rO, rV, mI_sQ, mL_sQ, mK_sQ, mS_sQ, mQ_s1, mQ_s2, iL_and, iL_or, iL_xor, iL_shl, iL_ushr, iR_and, iR_or, iR_xor, iR_shl, iR_shr, iR_ushr, iR_cmp, yc0, tlX8_pack, tkX8_pack, o_aload, o_dup, o_getI, o_iadd, o_ic, o_ifne, o_iload, o_iret, o_istore, o_isub, o_putI]
    try simp +contextual (disch := omega) only [impF, impT, and_true, true_and, implies_true, not_false_eq_true, not_true_eq_false]
    refine x_callV (by decide +kernel) cv_X8_105 (hfa) c0 (by omega) rfl (by omega) (by omega) rfl (Nat.le_of_ble_eq_true rfl) ?_
    rintro r h' ⟨rfl, hE⟩
    subst h'
    refine z_run1 tsX8_pack [] 20 ?_
    simp (maxSteps := 1000000) -implicitDefEqProofs +contextual (disch := omega) only [z_wp_t, z_wp_u, ↓pI_e, ↓pL_e, ↓pO_e, ↓pR_e, ↓p1_I, ↓p1_O, z_gl, z_st1, z_st2, z_nl_I, z_nl_O, z_nl_J, z_nl_L, if_true, if_false, ite_true, ite_false, true_and, and_true, List.mem_cons, List.not_mem_nil, or_false, false_or, or_self, List.length_cons, List.length_nil, InR_t, InL_t, z_ix_t, mI_s1, mI_s2, ↓brT, ↓brF, ↓brT', ↓brF', mL_sI, mR_sI, mK_sI, mS_sI, mI_sL, mL_s1, mL_s2, mR_sL, mK_sL, mS_sL, mI_sR, mL_sR, mR_s1, mR_s2, mK_sR, mS_sR, mA_s1, mA_s2, mL_sA, mR_sA, mK_sA, mS_sA, ix_n, ix_a, ix_m, ix_s, z_sw, z_stop, forall_const, true_implies, false_implies, imp_self, implies_true, not_true_eq_false, not_false_eq_true, ne_eq, eq_self, Option.some.injEq, reduceCtorEq, Nat.reduceAdd, Nat.reduceSub, Nat.reduceMul, Nat.reduceEqDiff, Nat.reduceLT, Nat.reduceLeDiff, Int.reduceAdd, Int.reduceMul, Int.reduceSub, Int.reduceNeg, Int.reduceToNat, Int.reduceLT, Int.reduceLE, Int.reduceEq, ↓reduceIte, List.reverse_cons, Option.toList, List.cons_append, List.nil_append, vI_inj, vL_inj, vO_inj, rI, rL, rO, rV, mI_sQ, mL_sQ, mK_sQ, mS_sQ, mQ_s1, mQ_s2, iL_and, iL_or, iL_xor, iL_shl, iL_ushr, iR_and, iR_or, iR_xor, iR_shl, iR_shr, iR_ushr, iR_cmp, yc0, tlX8_pack, tkX8_pack, o_aload, o_dup, o_getI, o_iadd, o_ic, o_ifne, o_iload, o_iret, o_istore, o_isub, o_putI]
    try simp +contextual (disch := omega) only [impF, impT, and_true, true_and, implies_true, not_false_eq_true, not_true_eq_false]
    rw [← hQ]
    exact Or.inr ⟨q, rfl, rfl⟩
def tsQ (h : zH) (t : Nat → Int) (n i : Nat) (f s : Int) : Option zV → zH → Prop := fun r h' => r = none ∧ ((f = -1 ∧ ck t n i = s ∧ i + 1 ≤ n ∧ h' = sI h 93 7 (sk t n (i + 1) : Int)) ∨ (¬ (f = -1 ∧ ck t n i = s) ∧ h' = sI h 93 8 (if f = -1 then (i : Int) else f)))
set_option maxHeartbeats 4000000 in
theorem sm_takesSign (l : Launch) (G : zG) (h : zH) (t : Nat → Int) (n i : Nat) (f s : Int) (hR : RS h t n i f) (hs : 0 ≤ s ∧ s ≤ 127) (lv : Nat) (hlv : 3 ≤ lv) : z_Sp l G mtX8_takesSign lv 0 0 [vR 93, vI s] (h) (tsQ h t n i f s) := by
  refine x_enter [vR 93, vI s] (by decide +kernel) (by omega) rfl (Nat.le_of_ble_eq_true rfl) ?_
  generalize hQ : tsQ h t n i f s = QQ
  have c0 := hR.1.1
  have e7 := hR.2.2.1
  have e8 := hR.2.2.2.2.1
  have hi := hR.2.2.2.1
  have hn := hR.n40
  have hcr := hR.ck i
  have hfr := hR.2.2.2.2.2
  have hnx := sm_next l G h t n i f hR 1 (by omega)
  have hfa := sm_fails l G h t n i f hR 1 (by omega)
  have bad : ¬ (f = -1 ∧ ck t n i = s) → QQ none (sI h 93 8 (if f = -1 then (i : Int) else f)) := fun q => by
    rw [← hQ]
    exact ⟨rfl, Or.inr ⟨q, rfl⟩⟩
  by_cases hf : f = -1
  · rw [hf] at e8
    by_cases q : ck t n i = s
    · have hi1 : i + 1 ≤ n := ck_lt (t := t) (n := n) (i := i) (by omega)
      have hbl := bl_at (l := l) (G := G) hR hi1 2 (by omega)
      have hfin : QQ none (sI h 93 7 (sk t n (i + 1) : Int)) := by rw [← hQ]; exact ⟨rfl, Or.inl ⟨hf, q, hi1, rfl⟩⟩
      rw [q] at hnx
      clear bad hfa hQ
      refine z_run1 tsX8_takesSign [] 20 ?_
      simp (maxSteps := 1000000) -implicitDefEqProofs +contextual (disch := omega) only [z_wp_t, z_wp_u, ↓pI_e, ↓pL_e, ↓pO_e, ↓pR_e, ↓p1_I, ↓p1_O, z_gl, z_st1, z_st2, z_nl_I, z_nl_O, z_nl_J, z_nl_L, if_true, if_false, ite_true, ite_false, true_and, and_true, List.mem_cons, List.not_mem_nil, or_false, false_or, or_self, List.length_cons, List.length_nil, InR_t, InL_t, z_ix_t, mI_s1, mI_s2, ↓brT, ↓brF, ↓brT', ↓brF', mL_sI, mR_sI, mK_sI, mS_sI, mI_sL, mL_s1, mL_s2, mR_sL, mK_sL, mS_sL, mI_sR, mL_sR, mR_s1, mR_s2, mK_sR, mS_sR, mA_s1, mA_s2, mL_sA, mR_sA, mK_sA, mS_sA, ix_n, ix_a, ix_m, ix_s, z_sw, z_stop, forall_const, true_implies, false_implies, imp_self, implies_true, not_true_eq_false, not_false_eq_true, ne_eq, eq_self, Option.some.injEq, reduceCtorEq, Nat.reduceAdd, Nat.reduceSub, Nat.reduceMul, Nat.reduceEqDiff, Nat.reduceLT, Nat.reduceLeDiff, Int.reduceAdd, Int.reduceMul, Int.reduceSub, Int.reduceNeg, Int.reduceToNat, Int.reduceLT, Int.reduceLE, Int.reduceEq, ↓reduceIte, List.reverse_cons, Option.toList, List.cons_append, List.nil_append, vI_inj, vL_inj, vO_inj, rI, rL, rO, rV, mI_sQ, mL_sQ, mK_sQ, mS_sQ, mQ_s1, mQ_s2, iL_and, iL_or, iL_xor, iL_shl, iL_ushr, iR_and, iR_or, iR_xor, iR_shl, iR_shr, iR_ushr, iR_cmp, yc0, tlX8_takesSign, tkX8_takesSign, o_aload, o_dup, o_getI, o_goto, o_iadd, o_ic, o_icne, o_iload, o_putI, o_vret, c0, e8]
      try simp +contextual (disch := omega) only [impF, impT, and_true, true_and, implies_true, not_false_eq_true, not_true_eq_false]
      refine x_callV (by decide +kernel) cv_X8_91 (hnx) c0 (by omega) rfl (by omega) (by omega) rfl (Nat.le_of_ble_eq_true rfl) ?_
      rintro r h' ⟨rfl, hE⟩
      subst h'
      refine z_run1 tsX8_takesSign [] 20 ?_
      simp (maxSteps := 1000000) -implicitDefEqProofs +contextual (disch := omega) only [z_wp_t, z_wp_u, ↓pI_e, ↓pL_e, ↓pO_e, ↓pR_e, ↓p1_I, ↓p1_O, z_gl, z_st1, z_st2, z_nl_I, z_nl_O, z_nl_J, z_nl_L, if_true, if_false, ite_true, ite_false, true_and, and_true, List.mem_cons, List.not_mem_nil, or_false, false_or, or_self, List.length_cons, List.length_nil, InR_t, InL_t, z_ix_t, mI_s1, mI_s2, ↓brT, ↓brF, ↓brT', ↓brF', mL_sI, mR_sI, mK_sI, mS_sI, mI_sL, mL_s1, mL_s2, mR_sL, mK_sL, mS_sL, mI_sR, mL_sR, mR_s1, mR_s2, mK_sR, mS_sR, mA_s1, mA_s2, mL_sA, mR_sA, mK_sA, mS_sA, ix_n, ix_a, ix_m, ix_s, z_sw, z_stop, forall_const, true_implies, false_implies, imp_self, implies_true, not_true_eq_false, not_false_eq_true, ne_eq, eq_self, Option.some.injEq, reduceCtorEq, Nat.reduceAdd, Nat.reduceSub, Nat.reduceMul, Nat.reduceEqDiff, Nat.reduceLT, Nat.reduceLeDiff, Int.reduceAdd, Int.reduceMul, Int.reduceSub, Int.reduceNeg, Int.reduceToNat, Int.reduceLT, Int.reduceLE, Int.reduceEq, ↓reduceIte, List.reverse_cons, Option.toList, List.cons_append, List.nil_append, vI_inj, vL_inj, vO_inj, rI, rL, rO, rV, mI_sQ, mL_sQ, mK_sQ, mS_sQ, mQ_s1, mQ_s2, iL_and, iL_or, iL_xor, iL_shl, iL_ushr, iR_and, iR_or, iR_xor, iR_shl, iR_shr, iR_ushr, iR_cmp, yc0, tlX8_takesSign, tkX8_takesSign, o_aload, o_dup, o_getI, o_goto, o_iadd, o_ic, o_icne, o_iload, o_putI, o_vret, c0, e7]
      try simp +contextual (disch := omega) only [impF, impT, and_true, true_and, implies_true, not_false_eq_true, not_true_eq_false]
      refine x_callV (by decide +kernel) cv_X8_108 (hbl) c0 (by omega) rfl (by omega) (by omega) rfl (Nat.le_of_ble_eq_true rfl) ?_
      rintro r h' ⟨rfl, hE⟩
      subst h'
      refine z_run1 tsX8_takesSign [] 20 ?_
      simp (maxSteps := 1000000) -implicitDefEqProofs +contextual (disch := omega) only [z_wp_t, z_wp_u, ↓pI_e, ↓pL_e, ↓pO_e, ↓pR_e, ↓p1_I, ↓p1_O, z_gl, z_st1, z_st2, z_nl_I, z_nl_O, z_nl_J, z_nl_L, if_true, if_false, ite_true, ite_false, true_and, and_true, List.mem_cons, List.not_mem_nil, or_false, false_or, or_self, List.length_cons, List.length_nil, InR_t, InL_t, z_ix_t, mI_s1, mI_s2, ↓brT, ↓brF, ↓brT', ↓brF', mL_sI, mR_sI, mK_sI, mS_sI, mI_sL, mL_s1, mL_s2, mR_sL, mK_sL, mS_sL, mI_sR, mL_sR, mR_s1, mR_s2, mK_sR, mS_sR, mA_s1, mA_s2, mL_sA, mR_sA, mK_sA, mS_sA, ix_n, ix_a, ix_m, ix_s, z_sw, z_stop, forall_const, true_implies, false_implies, imp_self, implies_true, not_true_eq_false, not_false_eq_true, ne_eq, eq_self, Option.some.injEq, reduceCtorEq, Nat.reduceAdd, Nat.reduceSub, Nat.reduceMul, Nat.reduceEqDiff, Nat.reduceLT, Nat.reduceLeDiff, Int.reduceAdd, Int.reduceMul, Int.reduceSub, Int.reduceNeg, Int.reduceToNat, Int.reduceLT, Int.reduceLE, Int.reduceEq, ↓reduceIte, List.reverse_cons, Option.toList, List.cons_append, List.nil_append, vI_inj, vL_inj, vO_inj, rI, rL, rO, rV, mI_sQ, mL_sQ, mK_sQ, mS_sQ, mQ_s1, mQ_s2, iL_and, iL_or, iL_xor, iL_shl, iL_ushr, iR_and, iR_or, iR_xor, iR_shl, iR_shr, iR_ushr, iR_cmp, yc0, tlX8_takesSign, tkX8_takesSign, o_aload, o_dup, o_getI, o_goto, o_iadd, o_ic, o_icne, o_iload, o_putI, o_vret]
      try simp +contextual (disch := omega) only [impF, impT, and_true, true_and, implies_true, not_false_eq_true, not_true_eq_false]
      exact hfin
    · have bad2 := bad (fun w => q w.2)
      clear bad hQ
      generalize (if f = -1 then (i : Int) else f) = ff at *
      generalize ck t n i = c at *
      refine z_run1 tsX8_takesSign [] 20 ?_
      simp (maxSteps := 1000000) -implicitDefEqProofs +contextual (disch := omega) only [z_wp_t, z_wp_u, ↓pI_e, ↓pL_e, ↓pO_e, ↓pR_e, ↓p1_I, ↓p1_O, z_gl, z_st1, z_st2, z_nl_I, z_nl_O, z_nl_J, z_nl_L, if_true, if_false, ite_true, ite_false, true_and, and_true, List.mem_cons, List.not_mem_nil, or_false, false_or, or_self, List.length_cons, List.length_nil, InR_t, InL_t, z_ix_t, mI_s1, mI_s2, ↓brT, ↓brF, ↓brT', ↓brF', mL_sI, mR_sI, mK_sI, mS_sI, mI_sL, mL_s1, mL_s2, mR_sL, mK_sL, mS_sL, mI_sR, mL_sR, mR_s1, mR_s2, mK_sR, mS_sR, mA_s1, mA_s2, mL_sA, mR_sA, mK_sA, mS_sA, ix_n, ix_a, ix_m, ix_s, z_sw, z_stop, forall_const, true_implies, false_implies, imp_self, implies_true, not_true_eq_false, not_false_eq_true, ne_eq, eq_self, Option.some.injEq, reduceCtorEq, Nat.reduceAdd, Nat.reduceSub, Nat.reduceMul, Nat.reduceEqDiff, Nat.reduceLT, Nat.reduceLeDiff, Int.reduceAdd, Int.reduceMul, Int.reduceSub, Int.reduceNeg, Int.reduceToNat, Int.reduceLT, Int.reduceLE, Int.reduceEq, ↓reduceIte, List.reverse_cons, Option.toList, List.cons_append, List.nil_append, vI_inj, vL_inj, vO_inj, rI, rL, rO, rV, mI_sQ, mL_sQ, mK_sQ, mS_sQ, mQ_s1, mQ_s2, iL_and, iL_or, iL_xor, iL_shl, iL_ushr, iR_and, iR_or, iR_xor, iR_shl, iR_shr, iR_ushr, iR_cmp, yc0, tlX8_takesSign, tkX8_takesSign, o_aload, o_dup, o_getI, o_goto, o_iadd, o_ic, o_icne, o_iload, o_putI, o_vret, c0, e8]
      try simp +contextual (disch := omega) only [impF, impT, and_true, true_and, implies_true, not_false_eq_true, not_true_eq_false]
      refine x_callV (by decide +kernel) cv_X8_91 (hnx) c0 (by omega) rfl (by omega) (by omega) rfl (Nat.le_of_ble_eq_true rfl) ?_
      rintro r h' ⟨rfl, hE⟩
      subst h'
      refine z_run1 tsX8_takesSign [] 20 ?_
      simp (maxSteps := 1000000) -implicitDefEqProofs +contextual (disch := omega) only [z_wp_t, z_wp_u, ↓pI_e, ↓pL_e, ↓pO_e, ↓pR_e, ↓p1_I, ↓p1_O, z_gl, z_st1, z_st2, z_nl_I, z_nl_O, z_nl_J, z_nl_L, if_true, if_false, ite_true, ite_false, true_and, and_true, List.mem_cons, List.not_mem_nil, or_false, false_or, or_self, List.length_cons, List.length_nil, InR_t, InL_t, z_ix_t, mI_s1, mI_s2, ↓brT, ↓brF, ↓brT', ↓brF', mL_sI, mR_sI, mK_sI, mS_sI, mI_sL, mL_s1, mL_s2, mR_sL, mK_sL, mS_sL, mI_sR, mL_sR, mR_s1, mR_s2, mK_sR, mS_sR, mA_s1, mA_s2, mL_sA, mR_sA, mK_sA, mS_sA, ix_n, ix_a, ix_m, ix_s, z_sw, z_stop, forall_const, true_implies, false_implies, imp_self, implies_true, not_true_eq_false, not_false_eq_true, ne_eq, eq_self, Option.some.injEq, reduceCtorEq, Nat.reduceAdd, Nat.reduceSub, Nat.reduceMul, Nat.reduceEqDiff, Nat.reduceLT, Nat.reduceLeDiff, Int.reduceAdd, Int.reduceMul, Int.reduceSub, Int.reduceNeg, Int.reduceToNat, Int.reduceLT, Int.reduceLE, Int.reduceEq, ↓reduceIte, List.reverse_cons, Option.toList, List.cons_append, List.nil_append, vI_inj, vL_inj, vO_inj, rI, rL, rO, rV, mI_sQ, mL_sQ, mK_sQ, mS_sQ, mQ_s1, mQ_s2, iL_and, iL_or, iL_xor, iL_shl, iL_ushr, iR_and, iR_or, iR_xor, iR_shl, iR_shr, iR_ushr, iR_cmp, yc0, tlX8_takesSign, tkX8_takesSign, o_aload, o_dup, o_getI, o_goto, o_iadd, o_ic, o_icne, o_iload, o_putI, o_vret]
      try simp +contextual (disch := omega) only [impF, impT, and_true, true_and, implies_true, not_false_eq_true, not_true_eq_false]
      refine x_callV (by decide +kernel) cv_X8_105 (hfa) c0 (by omega) rfl (by omega) (by omega) rfl (Nat.le_of_ble_eq_true rfl) ?_
      rintro r h' ⟨rfl, hE⟩
      subst h'
      refine z_run1 tsX8_takesSign [] 20 ?_
      simp (maxSteps := 1000000) -implicitDefEqProofs +contextual (disch := omega) only [z_wp_t, z_wp_u, ↓pI_e, ↓pL_e, ↓pO_e, ↓pR_e, ↓p1_I, ↓p1_O, z_gl, z_st1, z_st2, z_nl_I, z_nl_O, z_nl_J, z_nl_L, if_true, if_false, ite_true, ite_false, true_and, and_true, List.mem_cons, List.not_mem_nil, or_false, false_or, or_self, List.length_cons, List.length_nil, InR_t, InL_t, z_ix_t, mI_s1, mI_s2, ↓brT, ↓brF, ↓brT', ↓brF', mL_sI, mR_sI, mK_sI, mS_sI, mI_sL, mL_s1, mL_s2, mR_sL, mK_sL, mS_sL, mI_sR, mL_sR, mR_s1, mR_s2, mK_sR, mS_sR, mA_s1, mA_s2, mL_sA, mR_sA, mK_sA, mS_sA, ix_n, ix_a, ix_m, ix_s, z_sw, z_stop, forall_const, true_implies, false_implies, imp_self, implies_true, not_true_eq_false, not_false_eq_true, ne_eq, eq_self, Option.some.injEq, reduceCtorEq, Nat.reduceAdd, Nat.reduceSub, Nat.reduceMul, Nat.reduceEqDiff, Nat.reduceLT, Nat.reduceLeDiff, Int.reduceAdd, Int.reduceMul, Int.reduceSub, Int.reduceNeg, Int.reduceToNat, Int.reduceLT, Int.reduceLE, Int.reduceEq, ↓reduceIte, List.reverse_cons, Option.toList, List.cons_append, List.nil_append, vI_inj, vL_inj, vO_inj, rI, rL, rO, rV, mI_sQ, mL_sQ, mK_sQ, mS_sQ, mQ_s1, mQ_s2, iL_and, iL_or, iL_xor, iL_shl, iL_ushr, iR_and, iR_or, iR_xor, iR_shl, iR_shr, iR_ushr, iR_cmp, yc0, tlX8_takesSign, tkX8_takesSign, o_aload, o_dup, o_getI, o_goto, o_iadd, o_ic, o_icne, o_iload, o_putI, o_vret]
      try simp +contextual (disch := omega) only [impF, impT, and_true, true_and, implies_true, not_false_eq_true, not_true_eq_false]
      exact bad2
  · have bad2 := bad (fun w => hf w.1)
    clear bad hQ hnx
    rw [if_neg hf] at hfa bad2
    refine z_run1 tsX8_takesSign [] 20 ?_
    simp (maxSteps := 1000000) -implicitDefEqProofs +contextual (disch := omega) only [z_wp_t, z_wp_u, ↓pI_e, ↓pL_e, ↓pO_e, ↓pR_e, ↓p1_I, ↓p1_O, z_gl, z_st1, z_st2, z_nl_I, z_nl_O, z_nl_J, z_nl_L, if_true, if_false, ite_true, ite_false, true_and, and_true, List.mem_cons, List.not_mem_nil, or_false, false_or, or_self, List.length_cons, List.length_nil, InR_t, InL_t, z_ix_t, mI_s1, mI_s2, ↓brT, ↓brF, ↓brT', ↓brF', mL_sI, mR_sI, mK_sI, mS_sI, mI_sL, mL_s1, mL_s2, mR_sL, mK_sL, mS_sL, mI_sR, mL_sR, mR_s1, mR_s2, mK_sR, mS_sR, mA_s1, mA_s2, mL_sA, mR_sA, mK_sA, mS_sA, ix_n, ix_a, ix_m, ix_s, z_sw, z_stop, forall_const, true_implies, false_implies, imp_self, implies_true, not_true_eq_false, not_false_eq_true, ne_eq, eq_self, Option.some.injEq, reduceCtorEq, Nat.reduceAdd, Nat.reduceSub, Nat.reduceMul, Nat.reduceEqDiff, Nat.reduceLT, Nat.reduceLeDiff, Int.reduceAdd, Int.reduceMul, Int.reduceSub, Int.reduceNeg, Int.reduceToNat, Int.reduceLT, Int.reduceLE, Int.reduceEq, ↓reduceIte, List.reverse_cons, Option.toList, List.cons_append, List.nil_append, vI_inj, vL_inj, vO_inj, rI, rL, rO, rV, mI_sQ, mL_sQ, mK_sQ, mS_sQ, mQ_s1, mQ_s2, iL_and, iL_or, iL_xor, iL_shl, iL_ushr, iR_and, iR_or, iR_xor, iR_shl, iR_shr, iR_ushr, iR_cmp, yc0, tlX8_takesSign, tkX8_takesSign, o_aload, o_dup, o_getI, o_goto, o_iadd, o_ic, o_icne, o_iload, o_putI, o_vret, c0, e8]
    try simp +contextual (disch := omega) only [impF, impT, and_true, true_and, implies_true, not_false_eq_true, not_true_eq_false]
    refine x_callV (by decide +kernel) cv_X8_105 (hfa) c0 (by omega) rfl (by omega) (by omega) rfl (Nat.le_of_ble_eq_true rfl) ?_
    rintro r h' ⟨rfl, hE⟩
    subst h'
    refine z_run1 tsX8_takesSign [] 20 ?_
    simp (maxSteps := 1000000) -implicitDefEqProofs +contextual (disch := omega) only [z_wp_t, z_wp_u, ↓pI_e, ↓pL_e, ↓pO_e, ↓pR_e, ↓p1_I, ↓p1_O, z_gl, z_st1, z_st2, z_nl_I, z_nl_O, z_nl_J, z_nl_L, if_true, if_false, ite_true, ite_false, true_and, and_true, List.mem_cons, List.not_mem_nil, or_false, false_or, or_self, List.length_cons, List.length_nil, InR_t, InL_t, z_ix_t, mI_s1, mI_s2, ↓brT, ↓brF, ↓brT', ↓brF', mL_sI, mR_sI, mK_sI, mS_sI, mI_sL, mL_s1, mL_s2, mR_sL, mK_sL, mS_sL, mI_sR, mL_sR, mR_s1, mR_s2, mK_sR, mS_sR, mA_s1, mA_s2, mL_sA, mR_sA, mK_sA, mS_sA, ix_n, ix_a, ix_m, ix_s, z_sw, z_stop, forall_const, true_implies, false_implies, imp_self, implies_true, not_true_eq_false, not_false_eq_true, ne_eq, eq_self, Option.some.injEq, reduceCtorEq, Nat.reduceAdd, Nat.reduceSub, Nat.reduceMul, Nat.reduceEqDiff, Nat.reduceLT, Nat.reduceLeDiff, Int.reduceAdd, Int.reduceMul, Int.reduceSub, Int.reduceNeg, Int.reduceToNat, Int.reduceLT, Int.reduceLE, Int.reduceEq, ↓reduceIte, List.reverse_cons, Option.toList, List.cons_append, List.nil_append, vI_inj, vL_inj, vO_inj, rI, rL, rO, rV, mI_sQ, mL_sQ, mK_sQ, mS_sQ, mQ_s1, mQ_s2, iL_and, iL_or, iL_xor, iL_shl, iL_ushr, iR_and, iR_or, iR_xor, iR_shl, iR_shr, iR_ushr, iR_cmp, yc0, tlX8_takesSign, tkX8_takesSign, o_aload, o_dup, o_getI, o_goto, o_iadd, o_ic, o_icne, o_iload, o_putI, o_vret]
    try simp +contextual (disch := omega) only [impF, impT, and_true, true_and, implies_true, not_false_eq_true, not_true_eq_false]
    exact bad2
theorem RK.s {h : zH} {k : Nat} {z : Int} : RK h (sI h 97 k z) := ⟨Fr.sI _ _ _ _ _ (Or.inr (Or.inl rfl)), rfl, fun j q1 q2 => mI_s2 _ _ (Or.inl (by omega)), rfl⟩
theorem RS.s {h : zH} {t : Nat → Int} {n i : Nat} {f : Int} (hR : RS h t n i f) (k : Nat) (z : Int) : RS (sI h 97 k z) t n i f := hR.k RK.s (by rw [mI_s2 _ _ (Or.inl (by omega))]; exact hR.2.2.1) hR.2.2.2.1 (by rw [mI_s2 _ _ (Or.inl (by omega))]; exact hR.2.2.2.2.1) hR.2.2.2.2.2
def ftQ (h : zH) (t : Nat → Int) (n : Nat) : Option zV → zH → Prop := fun r h' => r = none ∧ RK h h' ∧ (match rdA t n with
  | .inl j => RS h' t n j (j : Int)
  | .inr a => RS h' t n a.2 (-1) ∧ gI h' 97 0 = a.1)
set_option maxHeartbeats 4000000 in
theorem sm_feature (l : Launch) (G : zG) (h : zH) (t : Nat → Int) (n : Nat) (hR : RS h t n (sk t n 0) (-1)) (lv : Nat) (hlv : 3 ≤ lv) : z_Sp l G mtX8_feature lv 0 0 [vR 93] (h) (ftQ h t n) := by
  refine x_enter [vR 93] (by decide +kernel) (by omega) rfl (Nat.le_of_ble_eq_true rfl) ?_
  generalize hQ : ftQ h t n = QQ
  have hR0 := hR.s 0 0
  have hK0 : RK h (sI h 97 0 0) := RK.s
  have c97 := hR.1.2.1.2.2.2.1
  have s5 := hR.1.2.2.2.1.2.2.2.1
  have c00 := hR.1.1
  have e0 : gI (sI h 97 0 0) 97 0 = 0 := mI_s1 _ _ _ _
  have step : z_X l G mtX8_feature lv 0 0 (QQ) 0 0 (sI h 97 0 0) 7 [vR 93] [] := by
    generalize sI h 97 0 0 = h1 at *
    have c0 := hR0.1.1
    have d97 := hR0.1.2.1.2.2.2.1
    have t5 := hR0.1.2.2.2.1.2.2.2.1
    have e7 := hR0.2.2.1
    have hi := hR0.2.2.2.1
    have hn := hR0.n40
    have hcr := hR0.ck (sk t n 0)
    have hnx := sm_next l G h1 t n (sk t n 0) (-1) hR0 1 (by omega)
    by_cases q : ck t n (sk t n 0) = 35
    · have hi1 : sk t n 0 + 1 ≤ n := ck_lt (t := t) (n := n) (i := sk t n 0) (by omega)
      have hbl := bl_at (l := l) (G := G) hR0 hi1 2 (by omega)
      have hskn := (sk_le t hi1).2
      have hR2 := hR0.at _ hskn
      have hK2 : RK h (sI h1 93 7 (sk t n (sk t n 0 + 1) : Int)) := hK0.tr (RK.i (Or.inl rfl))
      have hA : rdA t n = if 49 ≤ ck t n (sk t n (sk t n 0 + 1)) ∧ ck t n (sk t n (sk t n 0 + 1)) ≤ 52 then .inr (ck t n (sk t n (sk t n 0 + 1)) - 49 + 1, sk t n (sk t n (sk t n 0 + 1) + 1)) else .inl (sk t n (sk t n 0 + 1)) := by
        unfold rdA
        rw [if_pos q]
      rw [q] at hnx
      generalize sI h1 93 7 (sk t n (sk t n 0 + 1) : Int) = h2 at *
      generalize sk t n (sk t n 0 + 1) = j at *
      have c2 := hR2.1.1
      have d97' := hR2.1.2.1.2.2.2.1
      have t5' := hR2.1.2.2.2.1.2.2.2.1
      have e72 := hR2.2.2.1
      have hcr2 := hR2.ck j
      have hnx2 := sm_next l G h2 t n j (-1) hR2 1 (by omega)
      have hin := sm_in l G h2 (ck t n j) 49 52 (by unfold InR; omega) (by unfold InR; omega) (by unfold InR; omega) 1 (by omega)
      have hfa := sm_fails l G h2 t n j (-1) hR2 1 (by omega)
      rw [if_pos rfl] at hfa
      by_cases q2 : 49 ≤ ck t n j ∧ ck t n j ≤ 52
      · rw [if_pos q2] at hA hin
        have hj1 : j + 1 ≤ n := ck_lt (t := t) (n := n) (i := j) (by omega)
        have hR3 := hR2.s 0 (ck t n j - 48)
        have hbl2 := bl_at (l := l) (G := G) hR3 hj1 2 (by omega)
        have hskn2 := (sk_le t hj1).2
        have hR4 := hR3.at _ hskn2
        have hfin : QQ none (sI (sI h2 97 0 (ck t n j - 48)) 93 7 (sk t n (j + 1) : Int)) := by
          rw [← hQ]
          refine ⟨rfl, (hK2.tr RK.s).tr (RK.i (Or.inl rfl)), ?_⟩
          rw [hA]
          refine ⟨hR4, ?_⟩
          rw [mI_s2 _ _ (Or.inl (by omega)), mI_s1]
          show ck t n j - 48 = ck t n j - 49 + 1
          omega
        have c3 := hR3.1.1
        have e73 := hR3.2.2.1
        clear hQ hA hfa
        generalize ck t n j = c at *
        generalize ck t n (sk t n 0) = c1 at *
        refine z_run1 tsX8_feature [] 20 ?_
        simp (maxSteps := 1000000) -implicitDefEqProofs +contextual (disch := omega) only [z_wp_t, z_wp_u, ↓pI_e, ↓pL_e, ↓pO_e, ↓pR_e, ↓p1_I, ↓p1_O, z_gl, z_st1, z_st2, z_nl_I, z_nl_O, z_nl_J, z_nl_L, if_true, if_false, ite_true, ite_false, true_and, and_true, List.mem_cons, List.not_mem_nil, or_false, false_or, or_self, List.length_cons, List.length_nil, InR_t, InL_t, z_ix_t, mI_s1, mI_s2, ↓brT, ↓brF, ↓brT', ↓brF', mL_sI, mR_sI, mK_sI, mS_sI, mI_sL, mL_s1, mL_s2, mR_sL, mK_sL, mS_sL, mI_sR, mL_sR, mR_s1, mR_s2, mK_sR, mS_sR, mA_s1, mA_s2, mL_sA, mR_sA, mK_sA, mS_sA, ix_n, ix_a, ix_m, ix_s, z_sw, z_stop, forall_const, true_implies, false_implies, imp_self, implies_true, not_true_eq_false, not_false_eq_true, ne_eq, eq_self, Option.some.injEq, reduceCtorEq, Nat.reduceAdd, Nat.reduceSub, Nat.reduceMul, Nat.reduceEqDiff, Nat.reduceLT, Nat.reduceLeDiff, Int.reduceAdd, Int.reduceMul, Int.reduceSub, Int.reduceNeg, Int.reduceToNat, Int.reduceLT, Int.reduceLE, Int.reduceEq, ↓reduceIte, List.reverse_cons, Option.toList, List.cons_append, List.nil_append, vI_inj, vL_inj, vO_inj, rI, rL, rO, rV, mI_sQ, mL_sQ, mK_sQ, mS_sQ, mQ_s1, mQ_s2, iL_and, iL_or, iL_xor, iL_shl, iL_ushr, iR_and, iR_or, iR_xor, iR_shl, iR_shr, iR_ushr, iR_cmp, yc0, tlX8_feature, tkX8_feature, o_aload, o_dup, o_getI, o_getR, o_goto, o_iadd, o_iast, o_ic, o_icne, o_ifeq, o_isub, o_putI, o_vret]
        try simp +contextual (disch := omega) only [impF, impT, and_true, true_and, implies_true, not_false_eq_true, not_true_eq_false]
        refine x_callV (by decide +kernel) cv_X8_91 (hnx) c0 (by omega) rfl (by omega) (by omega) rfl (Nat.le_of_ble_eq_true rfl) ?_
        rintro r h' ⟨rfl, hE⟩
        subst h'
        refine z_run1 tsX8_feature [] 20 ?_
        simp (maxSteps := 1000000) -implicitDefEqProofs +contextual (disch := omega) only [z_wp_t, z_wp_u, ↓pI_e, ↓pL_e, ↓pO_e, ↓pR_e, ↓p1_I, ↓p1_O, z_gl, z_st1, z_st2, z_nl_I, z_nl_O, z_nl_J, z_nl_L, if_true, if_false, ite_true, ite_false, true_and, and_true, List.mem_cons, List.not_mem_nil, or_false, false_or, or_self, List.length_cons, List.length_nil, InR_t, InL_t, z_ix_t, mI_s1, mI_s2, ↓brT, ↓brF, ↓brT', ↓brF', mL_sI, mR_sI, mK_sI, mS_sI, mI_sL, mL_s1, mL_s2, mR_sL, mK_sL, mS_sL, mI_sR, mL_sR, mR_s1, mR_s2, mK_sR, mS_sR, mA_s1, mA_s2, mL_sA, mR_sA, mK_sA, mS_sA, ix_n, ix_a, ix_m, ix_s, z_sw, z_stop, forall_const, true_implies, false_implies, imp_self, implies_true, not_true_eq_false, not_false_eq_true, ne_eq, eq_self, Option.some.injEq, reduceCtorEq, Nat.reduceAdd, Nat.reduceSub, Nat.reduceMul, Nat.reduceEqDiff, Nat.reduceLT, Nat.reduceLeDiff, Int.reduceAdd, Int.reduceMul, Int.reduceSub, Int.reduceNeg, Int.reduceToNat, Int.reduceLT, Int.reduceLE, Int.reduceEq, ↓reduceIte, List.reverse_cons, Option.toList, List.cons_append, List.nil_append, vI_inj, vL_inj, vO_inj, rI, rL, rO, rV, mI_sQ, mL_sQ, mK_sQ, mS_sQ, mQ_s1, mQ_s2, iL_and, iL_or, iL_xor, iL_shl, iL_ushr, iR_and, iR_or, iR_xor, iR_shl, iR_shr, iR_ushr, iR_cmp, yc0, tlX8_feature, tkX8_feature, o_aload, o_dup, o_getI, o_getR, o_goto, o_iadd, o_iast, o_ic, o_icne, o_ifeq, o_isub, o_putI, o_vret, c0, e7]
        try simp +contextual (disch := omega) only [impF, impT, and_true, true_and, implies_true, not_false_eq_true, not_true_eq_false]
        refine x_callV (by decide +kernel) cv_X8_108 (hbl) c0 (by omega) rfl (by omega) (by omega) rfl (Nat.le_of_ble_eq_true rfl) ?_
        rintro r h' ⟨rfl, hE⟩
        subst h'
        refine z_run1 tsX8_feature [] 20 ?_
        simp (maxSteps := 1000000) -implicitDefEqProofs +contextual (disch := omega) only [z_wp_t, z_wp_u, ↓pI_e, ↓pL_e, ↓pO_e, ↓pR_e, ↓p1_I, ↓p1_O, z_gl, z_st1, z_st2, z_nl_I, z_nl_O, z_nl_J, z_nl_L, if_true, if_false, ite_true, ite_false, true_and, and_true, List.mem_cons, List.not_mem_nil, or_false, false_or, or_self, List.length_cons, List.length_nil, InR_t, InL_t, z_ix_t, mI_s1, mI_s2, ↓brT, ↓brF, ↓brT', ↓brF', mL_sI, mR_sI, mK_sI, mS_sI, mI_sL, mL_s1, mL_s2, mR_sL, mK_sL, mS_sL, mI_sR, mL_sR, mR_s1, mR_s2, mK_sR, mS_sR, mA_s1, mA_s2, mL_sA, mR_sA, mK_sA, mS_sA, ix_n, ix_a, ix_m, ix_s, z_sw, z_stop, forall_const, true_implies, false_implies, imp_self, implies_true, not_true_eq_false, not_false_eq_true, ne_eq, eq_self, Option.some.injEq, reduceCtorEq, Nat.reduceAdd, Nat.reduceSub, Nat.reduceMul, Nat.reduceEqDiff, Nat.reduceLT, Nat.reduceLeDiff, Int.reduceAdd, Int.reduceMul, Int.reduceSub, Int.reduceNeg, Int.reduceToNat, Int.reduceLT, Int.reduceLE, Int.reduceEq, ↓reduceIte, List.reverse_cons, Option.toList, List.cons_append, List.nil_append, vI_inj, vL_inj, vO_inj, rI, rL, rO, rV, mI_sQ, mL_sQ, mK_sQ, mS_sQ, mQ_s1, mQ_s2, iL_and, iL_or, iL_xor, iL_shl, iL_ushr, iR_and, iR_or, iR_xor, iR_shl, iR_shr, iR_ushr, iR_cmp, yc0, tlX8_feature, tkX8_feature, o_aload, o_dup, o_getI, o_getR, o_goto, o_iadd, o_iast, o_ic, o_icne, o_ifeq, o_isub, o_putI, o_vret]
        try simp +contextual (disch := omega) only [impF, impT, and_true, true_and, implies_true, not_false_eq_true, not_true_eq_false]
        refine x_callV (by decide +kernel) cv_X8_91 (hnx2) c2 (by omega) rfl (by omega) (by omega) rfl (Nat.le_of_ble_eq_true rfl) ?_
        rintro r h' ⟨rfl, hE⟩
        subst h'
        refine z_run1 tsX8_feature [] 20 ?_
        simp (maxSteps := 1000000) -implicitDefEqProofs +contextual (disch := omega) only [z_wp_t, z_wp_u, ↓pI_e, ↓pL_e, ↓pO_e, ↓pR_e, ↓p1_I, ↓p1_O, z_gl, z_st1, z_st2, z_nl_I, z_nl_O, z_nl_J, z_nl_L, if_true, if_false, ite_true, ite_false, true_and, and_true, List.mem_cons, List.not_mem_nil, or_false, false_or, or_self, List.length_cons, List.length_nil, InR_t, InL_t, z_ix_t, mI_s1, mI_s2, ↓brT, ↓brF, ↓brT', ↓brF', mL_sI, mR_sI, mK_sI, mS_sI, mI_sL, mL_s1, mL_s2, mR_sL, mK_sL, mS_sL, mI_sR, mL_sR, mR_s1, mR_s2, mK_sR, mS_sR, mA_s1, mA_s2, mL_sA, mR_sA, mK_sA, mS_sA, ix_n, ix_a, ix_m, ix_s, z_sw, z_stop, forall_const, true_implies, false_implies, imp_self, implies_true, not_true_eq_false, not_false_eq_true, ne_eq, eq_self, Option.some.injEq, reduceCtorEq, Nat.reduceAdd, Nat.reduceSub, Nat.reduceMul, Nat.reduceEqDiff, Nat.reduceLT, Nat.reduceLeDiff, Int.reduceAdd, Int.reduceMul, Int.reduceSub, Int.reduceNeg, Int.reduceToNat, Int.reduceLT, Int.reduceLE, Int.reduceEq, ↓reduceIte, List.reverse_cons, Option.toList, List.cons_append, List.nil_append, vI_inj, vL_inj, vO_inj, rI, rL, rO, rV, mI_sQ, mL_sQ, mK_sQ, mS_sQ, mQ_s1, mQ_s2, iL_and, iL_or, iL_xor, iL_shl, iL_ushr, iR_and, iR_or, iR_xor, iR_shl, iR_shr, iR_ushr, iR_cmp, yc0, tlX8_feature, tkX8_feature, o_aload, o_dup, o_getI, o_getR, o_goto, o_iadd, o_iast, o_ic, o_icne, o_ifeq, o_isub, o_putI, o_vret]
        try simp +contextual (disch := omega) only [impF, impT, and_true, true_and, implies_true, not_false_eq_true, not_true_eq_false]
        refine x_callS (by decide +kernel) cv_X8_56 (hin) (by omega) rfl (by omega) (by omega) rfl (Nat.le_of_ble_eq_true rfl) ?_
        rintro r h' ⟨rfl, hE⟩
        subst h'
        refine z_run1 tsX8_feature [] 20 ?_
        simp (maxSteps := 1000000) -implicitDefEqProofs +contextual (disch := omega) only [z_wp_t, z_wp_u, ↓pI_e, ↓pL_e, ↓pO_e, ↓pR_e, ↓p1_I, ↓p1_O, z_gl, z_st1, z_st2, z_nl_I, z_nl_O, z_nl_J, z_nl_L, if_true, if_false, ite_true, ite_false, true_and, and_true, List.mem_cons, List.not_mem_nil, or_false, false_or, or_self, List.length_cons, List.length_nil, InR_t, InL_t, z_ix_t, mI_s1, mI_s2, ↓brT, ↓brF, ↓brT', ↓brF', mL_sI, mR_sI, mK_sI, mS_sI, mI_sL, mL_s1, mL_s2, mR_sL, mK_sL, mS_sL, mI_sR, mL_sR, mR_s1, mR_s2, mK_sR, mS_sR, mA_s1, mA_s2, mL_sA, mR_sA, mK_sA, mS_sA, ix_n, ix_a, ix_m, ix_s, z_sw, z_stop, forall_const, true_implies, false_implies, imp_self, implies_true, not_true_eq_false, not_false_eq_true, ne_eq, eq_self, Option.some.injEq, reduceCtorEq, Nat.reduceAdd, Nat.reduceSub, Nat.reduceMul, Nat.reduceEqDiff, Nat.reduceLT, Nat.reduceLeDiff, Int.reduceAdd, Int.reduceMul, Int.reduceSub, Int.reduceNeg, Int.reduceToNat, Int.reduceLT, Int.reduceLE, Int.reduceEq, ↓reduceIte, List.reverse_cons, Option.toList, List.cons_append, List.nil_append, vI_inj, vL_inj, vO_inj, rI, rL, rO, rV, mI_sQ, mL_sQ, mK_sQ, mS_sQ, mQ_s1, mQ_s2, iL_and, iL_or, iL_xor, iL_shl, iL_ushr, iR_and, iR_or, iR_xor, iR_shl, iR_shr, iR_ushr, iR_cmp, yc0, tlX8_feature, tkX8_feature, o_aload, o_dup, o_getI, o_getR, o_goto, o_iadd, o_iast, o_ic, o_icne, o_ifeq, o_isub, o_putI, o_vret, c2, t5']
        try simp +contextual (disch := omega) only [impF, impT, and_true, true_and, implies_true, not_false_eq_true, not_true_eq_false]
        refine x_callV (by decide +kernel) cv_X8_91 (hnx2) c2 (by omega) rfl (by omega) (by omega) rfl (Nat.le_of_ble_eq_true rfl) ?_
        rintro r h' ⟨rfl, hE⟩
        subst h'
        refine z_run1 tsX8_feature [] 30 ?_
        simp (maxSteps := 1000000) -implicitDefEqProofs +contextual (disch := omega) only [z_wp_t, z_wp_u, ↓pI_e, ↓pL_e, ↓pO_e, ↓pR_e, ↓p1_I, ↓p1_O, z_gl, z_st1, z_st2, z_nl_I, z_nl_O, z_nl_J, z_nl_L, if_true, if_false, ite_true, ite_false, true_and, and_true, List.mem_cons, List.not_mem_nil, or_false, false_or, or_self, List.length_cons, List.length_nil, InR_t, InL_t, z_ix_t, mI_s1, mI_s2, ↓brT, ↓brF, ↓brT', ↓brF', mL_sI, mR_sI, mK_sI, mS_sI, mI_sL, mL_s1, mL_s2, mR_sL, mK_sL, mS_sL, mI_sR, mL_sR, mR_s1, mR_s2, mK_sR, mS_sR, mA_s1, mA_s2, mL_sA, mR_sA, mK_sA, mS_sA, ix_n, ix_a, ix_m, ix_s, z_sw, z_stop, forall_const, true_implies, false_implies, imp_self, implies_true, not_true_eq_false, not_false_eq_true, ne_eq, eq_self, Option.some.injEq, reduceCtorEq, Nat.reduceAdd, Nat.reduceSub, Nat.reduceMul, Nat.reduceEqDiff, Nat.reduceLT, Nat.reduceLeDiff, Int.reduceAdd, Int.reduceMul, Int.reduceSub, Int.reduceNeg, Int.reduceToNat, Int.reduceLT, Int.reduceLE, Int.reduceEq, ↓reduceIte, List.reverse_cons, Option.toList, List.cons_append, List.nil_append, vI_inj, vL_inj, vO_inj, rI, rL, rO, rV, mI_sQ, mL_sQ, mK_sQ, mS_sQ, mQ_s1, mQ_s2, iL_and, iL_or, iL_xor, iL_shl, iL_ushr, iR_and, iR_or, iR_xor, iR_shl, iR_shr, iR_ushr, iR_cmp, yc0, tlX8_feature, tkX8_feature, o_aload, o_dup, o_getI, o_getR, o_goto, o_iadd, o_iast, o_ic, o_icne, o_ifeq, o_isub, o_putI, o_vret, c2, d97', e72]
        try simp +contextual (disch := omega) only [impF, impT, and_true, true_and, implies_true, not_false_eq_true, not_true_eq_false]
        refine x_callV (by decide +kernel) cv_X8_108 (hbl2) c3 (by omega) rfl (by omega) (by omega) rfl (Nat.le_of_ble_eq_true rfl) ?_
        rintro r h' ⟨rfl, hE⟩
        subst h'
        refine z_run1 tsX8_feature [] 20 ?_
        simp (maxSteps := 1000000) -implicitDefEqProofs +contextual (disch := omega) only [z_wp_t, z_wp_u, ↓pI_e, ↓pL_e, ↓pO_e, ↓pR_e, ↓p1_I, ↓p1_O, z_gl, z_st1, z_st2, z_nl_I, z_nl_O, z_nl_J, z_nl_L, if_true, if_false, ite_true, ite_false, true_and, and_true, List.mem_cons, List.not_mem_nil, or_false, false_or, or_self, List.length_cons, List.length_nil, InR_t, InL_t, z_ix_t, mI_s1, mI_s2, ↓brT, ↓brF, ↓brT', ↓brF', mL_sI, mR_sI, mK_sI, mS_sI, mI_sL, mL_s1, mL_s2, mR_sL, mK_sL, mS_sL, mI_sR, mL_sR, mR_s1, mR_s2, mK_sR, mS_sR, mA_s1, mA_s2, mL_sA, mR_sA, mK_sA, mS_sA, ix_n, ix_a, ix_m, ix_s, z_sw, z_stop, forall_const, true_implies, false_implies, imp_self, implies_true, not_true_eq_false, not_false_eq_true, ne_eq, eq_self, Option.some.injEq, reduceCtorEq, Nat.reduceAdd, Nat.reduceSub, Nat.reduceMul, Nat.reduceEqDiff, Nat.reduceLT, Nat.reduceLeDiff, Int.reduceAdd, Int.reduceMul, Int.reduceSub, Int.reduceNeg, Int.reduceToNat, Int.reduceLT, Int.reduceLE, Int.reduceEq, ↓reduceIte, List.reverse_cons, Option.toList, List.cons_append, List.nil_append, vI_inj, vL_inj, vO_inj, rI, rL, rO, rV, mI_sQ, mL_sQ, mK_sQ, mS_sQ, mQ_s1, mQ_s2, iL_and, iL_or, iL_xor, iL_shl, iL_ushr, iR_and, iR_or, iR_xor, iR_shl, iR_shr, iR_ushr, iR_cmp, yc0, tlX8_feature, tkX8_feature, o_aload, o_dup, o_getI, o_getR, o_goto, o_iadd, o_iast, o_ic, o_icne, o_ifeq, o_isub, o_putI, o_vret]
        try simp +contextual (disch := omega) only [impF, impT, and_true, true_and, implies_true, not_false_eq_true, not_true_eq_false]
        exact hfin
      · rw [if_neg q2] at hA hin
        have hfin : QQ none (sI h2 93 8 (j : Int)) := by
          rw [← hQ]
          refine ⟨rfl, hK2.tr (RK.i (Or.inr rfl)), ?_⟩
          rw [hA]
          exact hR2.fl (j : Int) (by have := hR2.2.2.2.1; omega)
        clear hQ hA
        generalize ck t n j = c at *
        generalize ck t n (sk t n 0) = c1 at *
        refine z_run1 tsX8_feature [] 20 ?_
        simp (maxSteps := 1000000) -implicitDefEqProofs +contextual (disch := omega) only [z_wp_t, z_wp_u, ↓pI_e, ↓pL_e, ↓pO_e, ↓pR_e, ↓p1_I, ↓p1_O, z_gl, z_st1, z_st2, z_nl_I, z_nl_O, z_nl_J, z_nl_L, if_true, if_false, ite_true, ite_false, true_and, and_true, List.mem_cons, List.not_mem_nil, or_false, false_or, or_self, List.length_cons, List.length_nil, InR_t, InL_t, z_ix_t, mI_s1, mI_s2, ↓brT, ↓brF, ↓brT', ↓brF', mL_sI, mR_sI, mK_sI, mS_sI, mI_sL, mL_s1, mL_s2, mR_sL, mK_sL, mS_sL, mI_sR, mL_sR, mR_s1, mR_s2, mK_sR, mS_sR, mA_s1, mA_s2, mL_sA, mR_sA, mK_sA, mS_sA, ix_n, ix_a, ix_m, ix_s, z_sw, z_stop, forall_const, true_implies, false_implies, imp_self, implies_true, not_true_eq_false, not_false_eq_true, ne_eq, eq_self, Option.some.injEq, reduceCtorEq, Nat.reduceAdd, Nat.reduceSub, Nat.reduceMul, Nat.reduceEqDiff, Nat.reduceLT, Nat.reduceLeDiff, Int.reduceAdd, Int.reduceMul, Int.reduceSub, Int.reduceNeg, Int.reduceToNat, Int.reduceLT, Int.reduceLE, Int.reduceEq, ↓reduceIte, List.reverse_cons, Option.toList, List.cons_append, List.nil_append, vI_inj, vL_inj, vO_inj, rI, rL, rO, rV, mI_sQ, mL_sQ, mK_sQ, mS_sQ, mQ_s1, mQ_s2, iL_and, iL_or, iL_xor, iL_shl, iL_ushr, iR_and, iR_or, iR_xor, iR_shl, iR_shr, iR_ushr, iR_cmp, yc0, tlX8_feature, tkX8_feature, o_aload, o_dup, o_getI, o_getR, o_goto, o_iadd, o_iast, o_ic, o_icne, o_ifeq, o_isub, o_putI, o_vret]
        try simp +contextual (disch := omega) only [impF, impT, and_true, true_and, implies_true, not_false_eq_true, not_true_eq_false]
        refine x_callV (by decide +kernel) cv_X8_91 (hnx) c0 (by omega) rfl (by omega) (by omega) rfl (Nat.le_of_ble_eq_true rfl) ?_
        rintro r h' ⟨rfl, hE⟩
        subst h'
        refine z_run1 tsX8_feature [] 20 ?_
        simp (maxSteps := 1000000) -implicitDefEqProofs +contextual (disch := omega) only [z_wp_t, z_wp_u, ↓pI_e, ↓pL_e, ↓pO_e, ↓pR_e, ↓p1_I, ↓p1_O, z_gl, z_st1, z_st2, z_nl_I, z_nl_O, z_nl_J, z_nl_L, if_true, if_false, ite_true, ite_false, true_and, and_true, List.mem_cons, List.not_mem_nil, or_false, false_or, or_self, List.length_cons, List.length_nil, InR_t, InL_t, z_ix_t, mI_s1, mI_s2, ↓brT, ↓brF, ↓brT', ↓brF', mL_sI, mR_sI, mK_sI, mS_sI, mI_sL, mL_s1, mL_s2, mR_sL, mK_sL, mS_sL, mI_sR, mL_sR, mR_s1, mR_s2, mK_sR, mS_sR, mA_s1, mA_s2, mL_sA, mR_sA, mK_sA, mS_sA, ix_n, ix_a, ix_m, ix_s, z_sw, z_stop, forall_const, true_implies, false_implies, imp_self, implies_true, not_true_eq_false, not_false_eq_true, ne_eq, eq_self, Option.some.injEq, reduceCtorEq, Nat.reduceAdd, Nat.reduceSub, Nat.reduceMul, Nat.reduceEqDiff, Nat.reduceLT, Nat.reduceLeDiff, Int.reduceAdd, Int.reduceMul, Int.reduceSub, Int.reduceNeg, Int.reduceToNat, Int.reduceLT, Int.reduceLE, Int.reduceEq, ↓reduceIte, List.reverse_cons, Option.toList, List.cons_append, List.nil_append, vI_inj, vL_inj, vO_inj, rI, rL, rO, rV, mI_sQ, mL_sQ, mK_sQ, mS_sQ, mQ_s1, mQ_s2, iL_and, iL_or, iL_xor, iL_shl, iL_ushr, iR_and, iR_or, iR_xor, iR_shl, iR_shr, iR_ushr, iR_cmp, yc0, tlX8_feature, tkX8_feature, o_aload, o_dup, o_getI, o_getR, o_goto, o_iadd, o_iast, o_ic, o_icne, o_ifeq, o_isub, o_putI, o_vret, c0, e7]
        try simp +contextual (disch := omega) only [impF, impT, and_true, true_and, implies_true, not_false_eq_true, not_true_eq_false]
        refine x_callV (by decide +kernel) cv_X8_108 (hbl) c0 (by omega) rfl (by omega) (by omega) rfl (Nat.le_of_ble_eq_true rfl) ?_
        rintro r h' ⟨rfl, hE⟩
        subst h'
        refine z_run1 tsX8_feature [] 20 ?_
        simp (maxSteps := 1000000) -implicitDefEqProofs +contextual (disch := omega) only [z_wp_t, z_wp_u, ↓pI_e, ↓pL_e, ↓pO_e, ↓pR_e, ↓p1_I, ↓p1_O, z_gl, z_st1, z_st2, z_nl_I, z_nl_O, z_nl_J, z_nl_L, if_true, if_false, ite_true, ite_false, true_and, and_true, List.mem_cons, List.not_mem_nil, or_false, false_or, or_self, List.length_cons, List.length_nil, InR_t, InL_t, z_ix_t, mI_s1, mI_s2, ↓brT, ↓brF, ↓brT', ↓brF', mL_sI, mR_sI, mK_sI, mS_sI, mI_sL, mL_s1, mL_s2, mR_sL, mK_sL, mS_sL, mI_sR, mL_sR, mR_s1, mR_s2, mK_sR, mS_sR, mA_s1, mA_s2, mL_sA, mR_sA, mK_sA, mS_sA, ix_n, ix_a, ix_m, ix_s, z_sw, z_stop, forall_const, true_implies, false_implies, imp_self, implies_true, not_true_eq_false, not_false_eq_true, ne_eq, eq_self, Option.some.injEq, reduceCtorEq, Nat.reduceAdd, Nat.reduceSub, Nat.reduceMul, Nat.reduceEqDiff, Nat.reduceLT, Nat.reduceLeDiff, Int.reduceAdd, Int.reduceMul, Int.reduceSub, Int.reduceNeg, Int.reduceToNat, Int.reduceLT, Int.reduceLE, Int.reduceEq, ↓reduceIte, List.reverse_cons, Option.toList, List.cons_append, List.nil_append, vI_inj, vL_inj, vO_inj, rI, rL, rO, rV, mI_sQ, mL_sQ, mK_sQ, mS_sQ, mQ_s1, mQ_s2, iL_and, iL_or, iL_xor, iL_shl, iL_ushr, iR_and, iR_or, iR_xor, iR_shl, iR_shr, iR_ushr, iR_cmp, yc0, tlX8_feature, tkX8_feature, o_aload, o_dup, o_getI, o_getR, o_goto, o_iadd, o_iast, o_ic, o_icne, o_ifeq, o_isub, o_putI, o_vret]
        try simp +contextual (disch := omega) only [impF, impT, and_true, true_and, implies_true, not_false_eq_true, not_true_eq_false]
        refine x_callV (by decide +kernel) cv_X8_91 (hnx2) c2 (by omega) rfl (by omega) (by omega) rfl (Nat.le_of_ble_eq_true rfl) ?_
        rintro r h' ⟨rfl, hE⟩
        subst h'
        refine z_run1 tsX8_feature [] 20 ?_
        simp (maxSteps := 1000000) -implicitDefEqProofs +contextual (disch := omega) only [z_wp_t, z_wp_u, ↓pI_e, ↓pL_e, ↓pO_e, ↓pR_e, ↓p1_I, ↓p1_O, z_gl, z_st1, z_st2, z_nl_I, z_nl_O, z_nl_J, z_nl_L, if_true, if_false, ite_true, ite_false, true_and, and_true, List.mem_cons, List.not_mem_nil, or_false, false_or, or_self, List.length_cons, List.length_nil, InR_t, InL_t, z_ix_t, mI_s1, mI_s2, ↓brT, ↓brF, ↓brT', ↓brF', mL_sI, mR_sI, mK_sI, mS_sI, mI_sL, mL_s1, mL_s2, mR_sL, mK_sL, mS_sL, mI_sR, mL_sR, mR_s1, mR_s2, mK_sR, mS_sR, mA_s1, mA_s2, mL_sA, mR_sA, mK_sA, mS_sA, ix_n, ix_a, ix_m, ix_s, z_sw, z_stop, forall_const, true_implies, false_implies, imp_self, implies_true, not_true_eq_false, not_false_eq_true, ne_eq, eq_self, Option.some.injEq, reduceCtorEq, Nat.reduceAdd, Nat.reduceSub, Nat.reduceMul, Nat.reduceEqDiff, Nat.reduceLT, Nat.reduceLeDiff, Int.reduceAdd, Int.reduceMul, Int.reduceSub, Int.reduceNeg, Int.reduceToNat, Int.reduceLT, Int.reduceLE, Int.reduceEq, ↓reduceIte, List.reverse_cons, Option.toList, List.cons_append, List.nil_append, vI_inj, vL_inj, vO_inj, rI, rL, rO, rV, mI_sQ, mL_sQ, mK_sQ, mS_sQ, mQ_s1, mQ_s2, iL_and, iL_or, iL_xor, iL_shl, iL_ushr, iR_and, iR_or, iR_xor, iR_shl, iR_shr, iR_ushr, iR_cmp, yc0, tlX8_feature, tkX8_feature, o_aload, o_dup, o_getI, o_getR, o_goto, o_iadd, o_iast, o_ic, o_icne, o_ifeq, o_isub, o_putI, o_vret]
        try simp +contextual (disch := omega) only [impF, impT, and_true, true_and, implies_true, not_false_eq_true, not_true_eq_false]
        refine x_callS (by decide +kernel) cv_X8_56 (hin) (by omega) rfl (by omega) (by omega) rfl (Nat.le_of_ble_eq_true rfl) ?_
        rintro r h' ⟨rfl, hE⟩
        subst h'
        refine z_run1 tsX8_feature [] 20 ?_
        simp (maxSteps := 1000000) -implicitDefEqProofs +contextual (disch := omega) only [z_wp_t, z_wp_u, ↓pI_e, ↓pL_e, ↓pO_e, ↓pR_e, ↓p1_I, ↓p1_O, z_gl, z_st1, z_st2, z_nl_I, z_nl_O, z_nl_J, z_nl_L, if_true, if_false, ite_true, ite_false, true_and, and_true, List.mem_cons, List.not_mem_nil, or_false, false_or, or_self, List.length_cons, List.length_nil, InR_t, InL_t, z_ix_t, mI_s1, mI_s2, ↓brT, ↓brF, ↓brT', ↓brF', mL_sI, mR_sI, mK_sI, mS_sI, mI_sL, mL_s1, mL_s2, mR_sL, mK_sL, mS_sL, mI_sR, mL_sR, mR_s1, mR_s2, mK_sR, mS_sR, mA_s1, mA_s2, mL_sA, mR_sA, mK_sA, mS_sA, ix_n, ix_a, ix_m, ix_s, z_sw, z_stop, forall_const, true_implies, false_implies, imp_self, implies_true, not_true_eq_false, not_false_eq_true, ne_eq, eq_self, Option.some.injEq, reduceCtorEq, Nat.reduceAdd, Nat.reduceSub, Nat.reduceMul, Nat.reduceEqDiff, Nat.reduceLT, Nat.reduceLeDiff, Int.reduceAdd, Int.reduceMul, Int.reduceSub, Int.reduceNeg, Int.reduceToNat, Int.reduceLT, Int.reduceLE, Int.reduceEq, ↓reduceIte, List.reverse_cons, Option.toList, List.cons_append, List.nil_append, vI_inj, vL_inj, vO_inj, rI, rL, rO, rV, mI_sQ, mL_sQ, mK_sQ, mS_sQ, mQ_s1, mQ_s2, iL_and, iL_or, iL_xor, iL_shl, iL_ushr, iR_and, iR_or, iR_xor, iR_shl, iR_shr, iR_ushr, iR_cmp, yc0, tlX8_feature, tkX8_feature, o_aload, o_dup, o_getI, o_getR, o_goto, o_iadd, o_iast, o_ic, o_icne, o_ifeq, o_isub, o_putI, o_vret]
        try simp +contextual (disch := omega) only [impF, impT, and_true, true_and, implies_true, not_false_eq_true, not_true_eq_false]
        refine x_callV (by decide +kernel) cv_X8_105 (hfa) c2 (by omega) rfl (by omega) (by omega) rfl (Nat.le_of_ble_eq_true rfl) ?_
        rintro r h' ⟨rfl, hE⟩
        subst h'
        refine z_run1 tsX8_feature [] 20 ?_
        simp (maxSteps := 1000000) -implicitDefEqProofs +contextual (disch := omega) only [z_wp_t, z_wp_u, ↓pI_e, ↓pL_e, ↓pO_e, ↓pR_e, ↓p1_I, ↓p1_O, z_gl, z_st1, z_st2, z_nl_I, z_nl_O, z_nl_J, z_nl_L, if_true, if_false, ite_true, ite_false, true_and, and_true, List.mem_cons, List.not_mem_nil, or_false, false_or, or_self, List.length_cons, List.length_nil, InR_t, InL_t, z_ix_t, mI_s1, mI_s2, ↓brT, ↓brF, ↓brT', ↓brF', mL_sI, mR_sI, mK_sI, mS_sI, mI_sL, mL_s1, mL_s2, mR_sL, mK_sL, mS_sL, mI_sR, mL_sR, mR_s1, mR_s2, mK_sR, mS_sR, mA_s1, mA_s2, mL_sA, mR_sA, mK_sA, mS_sA, ix_n, ix_a, ix_m, ix_s, z_sw, z_stop, forall_const, true_implies, false_implies, imp_self, implies_true, not_true_eq_false, not_false_eq_true, ne_eq, eq_self, Option.some.injEq, reduceCtorEq, Nat.reduceAdd, Nat.reduceSub, Nat.reduceMul, Nat.reduceEqDiff, Nat.reduceLT, Nat.reduceLeDiff, Int.reduceAdd, Int.reduceMul, Int.reduceSub, Int.reduceNeg, Int.reduceToNat, Int.reduceLT, Int.reduceLE, Int.reduceEq, ↓reduceIte, List.reverse_cons, Option.toList, List.cons_append, List.nil_append, vI_inj, vL_inj, vO_inj, rI, rL, rO, rV, mI_sQ, mL_sQ, mK_sQ, mS_sQ, mQ_s1, mQ_s2, iL_and, iL_or, iL_xor, iL_shl, iL_ushr, iR_and, iR_or, iR_xor, iR_shl, iR_shr, iR_ushr, iR_cmp, yc0, tlX8_feature, tkX8_feature, o_aload, o_dup, o_getI, o_getR, o_goto, o_iadd, o_iast, o_ic, o_icne, o_ifeq, o_isub, o_putI, o_vret]
        try simp +contextual (disch := omega) only [impF, impT, and_true, true_and, implies_true, not_false_eq_true, not_true_eq_false]
        exact hfin
    · have hA : rdA t n = .inr (0, sk t n 0) := by
        unfold rdA
        rw [if_neg q]
      have hfin : QQ none h1 := by
        rw [← hQ]
        refine ⟨rfl, hK0, ?_⟩
        rw [hA]
        exact ⟨hR0, e0⟩
      clear hQ hA
      generalize ck t n (sk t n 0) = c1 at *
      refine z_run1 tsX8_feature [] 20 ?_
      simp (maxSteps := 1000000) -implicitDefEqProofs +contextual (disch := omega) only [z_wp_t, z_wp_u, ↓pI_e, ↓pL_e, ↓pO_e, ↓pR_e, ↓p1_I, ↓p1_O, z_gl, z_st1, z_st2, z_nl_I, z_nl_O, z_nl_J, z_nl_L, if_true, if_false, ite_true, ite_false, true_and, and_true, List.mem_cons, List.not_mem_nil, or_false, false_or, or_self, List.length_cons, List.length_nil, InR_t, InL_t, z_ix_t, mI_s1, mI_s2, ↓brT, ↓brF, ↓brT', ↓brF', mL_sI, mR_sI, mK_sI, mS_sI, mI_sL, mL_s1, mL_s2, mR_sL, mK_sL, mS_sL, mI_sR, mL_sR, mR_s1, mR_s2, mK_sR, mS_sR, mA_s1, mA_s2, mL_sA, mR_sA, mK_sA, mS_sA, ix_n, ix_a, ix_m, ix_s, z_sw, z_stop, forall_const, true_implies, false_implies, imp_self, implies_true, not_true_eq_false, not_false_eq_true, ne_eq, eq_self, Option.some.injEq, reduceCtorEq, Nat.reduceAdd, Nat.reduceSub, Nat.reduceMul, Nat.reduceEqDiff, Nat.reduceLT, Nat.reduceLeDiff, Int.reduceAdd, Int.reduceMul, Int.reduceSub, Int.reduceNeg, Int.reduceToNat, Int.reduceLT, Int.reduceLE, Int.reduceEq, ↓reduceIte, List.reverse_cons, Option.toList, List.cons_append, List.nil_append, vI_inj, vL_inj, vO_inj, rI, rL, rO, rV, mI_sQ, mL_sQ, mK_sQ, mS_sQ, mQ_s1, mQ_s2, iL_and, iL_or, iL_xor, iL_shl, iL_ushr, iR_and, iR_or, iR_xor, iR_shl, iR_shr, iR_ushr, iR_cmp, yc0, tlX8_feature, tkX8_feature, o_aload, o_dup, o_getI, o_getR, o_goto, o_iadd, o_iast, o_ic, o_icne, o_ifeq, o_isub, o_putI, o_vret]
      try simp +contextual (disch := omega) only [impF, impT, and_true, true_and, implies_true, not_false_eq_true, not_true_eq_false]
      refine x_callV (by decide +kernel) cv_X8_91 (hnx) c0 (by omega) rfl (by omega) (by omega) rfl (Nat.le_of_ble_eq_true rfl) ?_
      rintro r h' ⟨rfl, hE⟩
      subst h'
      refine z_run1 tsX8_feature [] 20 ?_
      simp (maxSteps := 1000000) -implicitDefEqProofs +contextual (disch := omega) only [z_wp_t, z_wp_u, ↓pI_e, ↓pL_e, ↓pO_e, ↓pR_e, ↓p1_I, ↓p1_O, z_gl, z_st1, z_st2, z_nl_I, z_nl_O, z_nl_J, z_nl_L, if_true, if_false, ite_true, ite_false, true_and, and_true, List.mem_cons, List.not_mem_nil, or_false, false_or, or_self, List.length_cons, List.length_nil, InR_t, InL_t, z_ix_t, mI_s1, mI_s2, ↓brT, ↓brF, ↓brT', ↓brF', mL_sI, mR_sI, mK_sI, mS_sI, mI_sL, mL_s1, mL_s2, mR_sL, mK_sL, mS_sL, mI_sR, mL_sR, mR_s1, mR_s2, mK_sR, mS_sR, mA_s1, mA_s2, mL_sA, mR_sA, mK_sA, mS_sA, ix_n, ix_a, ix_m, ix_s, z_sw, z_stop, forall_const, true_implies, false_implies, imp_self, implies_true, not_true_eq_false, not_false_eq_true, ne_eq, eq_self, Option.some.injEq, reduceCtorEq, Nat.reduceAdd, Nat.reduceSub, Nat.reduceMul, Nat.reduceEqDiff, Nat.reduceLT, Nat.reduceLeDiff, Int.reduceAdd, Int.reduceMul, Int.reduceSub, Int.reduceNeg, Int.reduceToNat, Int.reduceLT, Int.reduceLE, Int.reduceEq, ↓reduceIte, List.reverse_cons, Option.toList, List.cons_append, List.nil_append, vI_inj, vL_inj, vO_inj, rI, rL, rO, rV, mI_sQ, mL_sQ, mK_sQ, mS_sQ, mQ_s1, mQ_s2, iL_and, iL_or, iL_xor, iL_shl, iL_ushr, iR_and, iR_or, iR_xor, iR_shl, iR_shr, iR_ushr, iR_cmp, yc0, tlX8_feature, tkX8_feature, o_aload, o_dup, o_getI, o_getR, o_goto, o_iadd, o_iast, o_ic, o_icne, o_ifeq, o_isub, o_putI, o_vret]
      try simp +contextual (disch := omega) only [impF, impT, and_true, true_and, implies_true, not_false_eq_true, not_true_eq_false]
      exact hfin
  clear hQ
  refine z_run1 tsX8_feature [7] 20 ?_
  simp (maxSteps := 1000000) -implicitDefEqProofs +contextual (disch := omega) only [z_wp_t, z_wp_u, ↓pI_e, ↓pL_e, ↓pO_e, ↓pR_e, ↓p1_I, ↓p1_O, z_gl, z_st1, z_st2, z_nl_I, z_nl_O, z_nl_J, z_nl_L, if_true, if_false, ite_true, ite_false, true_and, and_true, List.mem_cons, List.not_mem_nil, or_false, false_or, or_self, List.length_cons, List.length_nil, InR_t, InL_t, z_ix_t, mI_s1, mI_s2, ↓brT, ↓brF, ↓brT', ↓brF', mL_sI, mR_sI, mK_sI, mS_sI, mI_sL, mL_s1, mL_s2, mR_sL, mK_sL, mS_sL, mI_sR, mL_sR, mR_s1, mR_s2, mK_sR, mS_sR, mA_s1, mA_s2, mL_sA, mR_sA, mK_sA, mS_sA, ix_n, ix_a, ix_m, ix_s, z_sw, z_stop, forall_const, true_implies, false_implies, imp_self, implies_true, not_true_eq_false, not_false_eq_true, ne_eq, eq_self, Option.some.injEq, reduceCtorEq, Nat.reduceAdd, Nat.reduceSub, Nat.reduceMul, Nat.reduceEqDiff, Nat.reduceLT, Nat.reduceLeDiff, Int.reduceAdd, Int.reduceMul, Int.reduceSub, Int.reduceNeg, Int.reduceToNat, Int.reduceLT, Int.reduceLE, Int.reduceEq, ↓reduceIte, List.reverse_cons, Option.toList, List.cons_append, List.nil_append, vI_inj, vL_inj, vO_inj, rI, rL, rO, rV, mI_sQ, mL_sQ, mK_sQ, mS_sQ, mQ_s1, mQ_s2, iL_and, iL_or, iL_xor, iL_shl, iL_ushr, iR_and, iR_or, iR_xor, iR_shl, iR_shr, iR_ushr, iR_cmp, yc0, tlX8_feature, tkX8_feature, o_aload, o_dup, o_getI, o_getR, o_goto, o_iadd, o_iast, o_ic, o_icne, o_ifeq, o_isub, o_putI, o_vret, c00, c97, s5]
  try simp +contextual (disch := omega) only [impF, impT, and_true, true_and, implies_true, not_false_eq_true, not_true_eq_false]
  exact step
