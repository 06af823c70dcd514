/-! constructors: History -/
def HiE (h : zH) (b : Nat) : Prop := (gK h b).1 = 0 ∧ gK h (b + 1) = (13, 10) ∧ gR h b 0 = some (b + 1) ∧ (∀ i, i < 10 → gR h (b + 1) i = some (b + 2 + 5 * i)) ∧ (∀ i, i < 10 → StE h (b + 2 + 5 * i)) ∧ gI h b 1 = 0 ∧ gI h b 2 = 0
theorem HiE.sm {h h' : zH} {b : Nat} (hs : ∀ a, b ≤ a → a ≤ b + 51 → Sa h h' a) (hE : HiE h b) : HiE h' b := by
  obtain ⟨b1, b2, b3, b4, b5, b6, b7⟩ := hE
  obtain ⟨k0, i0, r0⟩ := hs b (by omega) (by omega)
  obtain ⟨k1, i1, r1⟩ := hs (b + 1) (by omega) (by omega)
  exact ⟨by rw [k0]; exact b1, by rw [k1]; exact b2, by rw [r0]; exact b3, fun i hi => by rw [r1]; exact b4 i hi, fun i hi => (b5 i hi).sm (fun a q1 q2 => hs a (by omega) (by omega)), by rw [i0]; exact b6, by rw [i0]; exact b7⟩
set_option maxRecDepth 4000 in
set_option maxHeartbeats 4000000 in
theorem sp_HiInit (l : Launch) (G : zG) (h : zH) (b : Nat) (k0 : (gK h b).1 = 0) (hq : gS h = b + 1) (lv : Nat) (hlv : 3 ≤ lv) : z_Sp l G mtX0_init lv 51 750 [vR b] (h) (fun r h' => r = none ∧ gS h' = b + 52 ∧ (∀ a, a < b → Sa h h' a) ∧ HiE h' b) := by
  refine x_enter [vR b, vJ] (by decide +kernel) (by omega) rfl (Nat.le_of_ble_eq_true rfl) ?_
  generalize hQ : (fun (r : Option zV) (h' : zH) => r = none ∧ gS h' = b + 52 ∧ (∀ a, a < b → Sa h h' a) ∧ HiE h' b) = QQ
  have hlo : ∀ (d i : Nat) (h1 : zH), i + d = 10 → (gK h1 b).1 = 0 → gK h1 (b + 1) = (13, 10) → gR h1 b 0 = some (b + 1) → gS h1 = b + 2 + 5 * i → (∀ a, a < b → Sa h h1 a) → (∀ j, j < i → gR h1 (b + 1) j = some (b + 2 + 5 * j)) → (∀ j, j < i → StE h1 (b + 2 + 5 * j)) → z_X l G mtX0_init lv 51 750 (QQ) (1 + 5 * i) (10 + 74 * i) (h1) 15 [vR b, vI i] [] := by
    intro d
    induction d with
    | zero =>
      intro i h1 hi c0 c1 r0 g1 s1 ra st
      obtain rfl : i = 10 := by omega
      have hfin : QQ none (sI (sI h1 b 1 0) b 2 0) := by
        rw [← hQ]
        have sm : ∀ a, a ≠ b → Sa h1 (sI (sI h1 b 1 0) b 2 0) a := fun a ha => (Sa.i (h := h1) (k := 1) (z := 0) ha).tr (Sa.i (h := sI h1 b 1 0) (k := 2) (z := 0) ha)
        have x1 : gS (sI (sI h1 b 1 0) b 2 0) = b + 52 := by rw [mS_sI, mS_sI, g1]
        have x2 : (gK (sI (sI h1 b 1 0) b 2 0) b).1 = 0 := by rw [mK_sI, mK_sI]; exact c0
        have x3 : gK (sI (sI h1 b 1 0) b 2 0) (b + 1) = (13, 10) := by rw [mK_sI, mK_sI]; exact c1
        have x4 : gR (sI (sI h1 b 1 0) b 2 0) b 0 = some (b + 1) := by rw [mR_sI, mR_sI]; exact r0
        have x5 : ∀ i, i < 10 → gR (sI (sI h1 b 1 0) b 2 0) (b + 1) i = some (b + 2 + 5 * i) := by rw [mR_sI, mR_sI]; exact ra
        have x6 : ∀ i, i < 10 → StE (sI (sI h1 b 1 0) b 2 0) (b + 2 + 5 * i) := fun j hj => StE.sm (fun a q1 q2 => sm a (by omega)) (st j hj)
        have x7 : gI (sI (sI h1 b 1 0) b 2 0) b 1 = 0 := by rw [mI_s2 _ _ (Or.inr (by omega)), mI_s1]
        have x8 : gI (sI (sI h1 b 1 0) b 2 0) b 2 = 0 := mI_s1 _ _ _ _
        exact ⟨rfl, x1, fun a ha => (s1 a ha).tr (sm a (by omega)), x2, x3, x4, x5, x6, x7, x8⟩
      clear hQ s1 ra st
      refine z_run1 tsX0_init [] 20 ?_
      simp (maxSteps := 1000000) -implicitDefEqProofs +contextual (disch := omega) only [z_wp_t, z_wp_u, ↓pI_e, ↓pL_e, ↓pO_e, ↓pR_e, ↓p1_I, ↓p1_O, z_gl, z_st1, z_st2, z_nl_I, z_nl_O, z_nl_J, z_nl_L, if_true, if_false, ite_true, ite_false, true_and, and_true, List.mem_cons, List.not_mem_nil, or_false, false_or, or_self, List.length_cons, List.length_nil, InR_t, InL_t, z_ix_t, mI_s1, mI_s2, ↓brT, ↓brF, ↓brT', ↓brF', mL_sI, mR_sI, mK_sI, mS_sI, mI_sL, mL_s1, mL_s2, mR_sL, mK_sL, mS_sL, mI_sR, mL_sR, mR_s1, mR_s2, mK_sR, mS_sR, mA_s1, mA_s2, mL_sA, mR_sA, mK_sA, mS_sA, ix_n, ix_a, ix_m, ix_s, z_sw, z_stop, forall_const, true_implies, false_implies, imp_self, implies_true, not_true_eq_false, not_false_eq_true, ne_eq, eq_self, Option.some.injEq, reduceCtorEq, Nat.reduceAdd, Nat.reduceSub, Nat.reduceMul, Nat.reduceEqDiff, Nat.reduceLT, Nat.reduceLeDiff, Int.reduceAdd, Int.reduceMul, Int.reduceSub, Int.reduceNeg, Int.reduceToNat, Int.reduceLT, Int.reduceLE, Int.reduceEq, ↓reduceIte, List.reverse_cons, Option.toList, List.cons_append, List.nil_append, vI_inj, vL_inj, vO_inj, rI, rL, rO, rV, mI_sQ, mL_sQ, mK_sQ, mS_sQ, mQ_s1, mQ_s2, iL_and, iL_or, iL_xor, iL_shl, iL_ushr, iR_and, iR_or, iR_xor, iR_shl, iR_shr, iR_ushr, iR_cmp, yc0, tlX0_init, tkX0_init, o_aast, o_aload, o_dup, o_getR, o_goto, o_ic, o_icge, o_iinc, o_iload, o_istore, o_oinit, o_putI, o_putR, o_vret, c0]
      try simp +contextual (disch := omega) only [impF, impT, and_true, true_and, implies_true, not_false_eq_true, not_true_eq_false]
      exact hfin
    | succ d ih =>
      intro i h1 hi c0 c1 r0 g1 s1 ra st
      refine z_run1 tsX0_init [] 20 ?_
      simp (maxSteps := 1000000) -implicitDefEqProofs +contextual (disch := omega) only [z_wp_t, z_wp_u, ↓pI_e, ↓pL_e, ↓pO_e, ↓pR_e, ↓p1_I, ↓p1_O, z_gl, z_st1, z_st2, z_nl_I, z_nl_O, z_nl_J, z_nl_L, if_true, if_false, ite_true, ite_false, true_and, and_true, List.mem_cons, List.not_mem_nil, or_false, false_or, or_self, List.length_cons, List.length_nil, InR_t, InL_t, z_ix_t, mI_s1, mI_s2, ↓brT, ↓brF, ↓brT', ↓brF', mL_sI, mR_sI, mK_sI, mS_sI, mI_sL, mL_s1, mL_s2, mR_sL, mK_sL, mS_sL, mI_sR, mL_sR, mR_s1, mR_s2, mK_sR, mS_sR, mA_s1, mA_s2, mL_sA, mR_sA, mK_sA, mS_sA, ix_n, ix_a, ix_m, ix_s, z_sw, z_stop, forall_const, true_implies, false_implies, imp_self, implies_true, not_true_eq_false, not_false_eq_true, ne_eq, eq_self, Option.some.injEq, reduceCtorEq, Nat.reduceAdd, Nat.reduceSub, Nat.reduceMul, Nat.reduceEqDiff, Nat.reduceLT, Nat.reduceLeDiff, Int.reduceAdd, Int.reduceMul, Int.reduceSub, Int.reduceNeg, Int.reduceToNat, Int.reduceLT, Int.reduceLE, Int.reduceEq, ↓reduceIte, List.reverse_cons, Option.toList, List.cons_append, List.nil_append, vI_inj, vL_inj, vO_inj, rI, rL, rO, rV, mI_sQ, mL_sQ, mK_sQ, mS_sQ, mQ_s1, mQ_s2, iL_and, iL_or, iL_xor, iL_shl, iL_ushr, iR_and, iR_or, iR_xor, iR_shl, iR_shr, iR_ushr, iR_cmp, yc0, tlX0_init, tkX0_init, o_aast, o_aload, o_dup, o_getR, o_goto, o_ic, o_icge, o_iinc, o_iload, o_istore, o_oinit, o_putI, o_putR, o_vret, c0, r0]
      try simp +contextual (disch := omega) only [impF, impT, and_true, true_and, implies_true, not_false_eq_true, not_true_eq_false]
      refine x_new 6 (by decide +kernel) (by decide) lw_X0_9 nw_X6 in_X6 (by omega) (by show 10 + 74 * i + 6 ≤ 750; omega) ?_
      rw [show z_nf 6 = 6 from rfl]
      have s2 : ∀ a, a < gS h1 → Sa h1 (nC h1 (6, 0)) a := fun a ha => Sa.n (by omega)
      have ks : (gK (nC h1 (6, 0)) (gS h1)).1 = 6 := by rw [mK_n1]
      have g2 : gS (nC h1 (6, 0)) = gS h1 + 1 := mS_nC _ _
      generalize nC h1 (6, 0) = h2 at *
      generalize hqq : gS h1 = q at *
      refine z_run1 tsX0_init [] 20 ?_
      simp (maxSteps := 1000000) -implicitDefEqProofs +contextual (disch := omega) only [z_wp_t, z_wp_u, ↓pI_e, ↓pL_e, ↓pO_e, ↓pR_e, ↓p1_I, ↓p1_O, z_gl, z_st1, z_st2, z_nl_I, z_nl_O, z_nl_J, z_nl_L, if_true, if_false, ite_true, ite_false, true_and, and_true, List.mem_cons, List.not_mem_nil, or_false, false_or, or_self, List.length_cons, List.length_nil, InR_t, InL_t, z_ix_t, mI_s1, mI_s2, ↓brT, ↓brF, ↓brT', ↓brF', mL_sI, mR_sI, mK_sI, mS_sI, mI_sL, mL_s1, mL_s2, mR_sL, mK_sL, mS_sL, mI_sR, mL_sR, mR_s1, mR_s2, mK_sR, mS_sR, mA_s1, mA_s2, mL_sA, mR_sA, mK_sA, mS_sA, ix_n, ix_a, ix_m, ix_s, z_sw, z_stop, forall_const, true_implies, false_implies, imp_self, implies_true, not_true_eq_false, not_false_eq_true, ne_eq, eq_self, Option.some.injEq, reduceCtorEq, Nat.reduceAdd, Nat.reduceSub, Nat.reduceMul, Nat.reduceEqDiff, Nat.reduceLT, Nat.reduceLeDiff, Int.reduceAdd, Int.reduceMul, Int.reduceSub, Int.reduceNeg, Int.reduceToNat, Int.reduceLT, Int.reduceLE, Int.reduceEq, ↓reduceIte, List.reverse_cons, Option.toList, List.cons_append, List.nil_append, vI_inj, vL_inj, vO_inj, rI, rL, rO, rV, mI_sQ, mL_sQ, mK_sQ, mS_sQ, mQ_s1, mQ_s2, iL_and, iL_or, iL_xor, iL_shl, iL_ushr, iR_and, iR_or, iR_xor, iR_shl, iR_shr, iR_ushr, iR_cmp, yc0, tlX0_init, tkX0_init, o_aast, o_aload, o_dup, o_getR, o_goto, o_ic, o_icge, o_iinc, o_iload, o_istore, o_oinit, o_putI, o_putR, o_vret]
      try simp +contextual (disch := omega) only [impF, impT, and_true, true_and, implies_true, not_false_eq_true, not_true_eq_false]
      refine x_callI (by decide +kernel) cv_X0_17 (sp_StInit l G h2 q ks g2 2 (by omega)) (by omega) rfl (by omega) (by omega) rfl (Nat.le_of_ble_eq_true rfl) ?_
      rintro r h3 ⟨rfl, g3, s3, e3⟩
      have s13 : ∀ a, a < q → Sa h1 h3 a := fun a ha => (s2 a ha).tr (s3 a ha)
      have c03 : (gK h3 b).1 = 0 := by rw [(s13 b (by omega)).1]; exact c0
      have c13 : gK h3 (b + 1) = (13, 10) := by rw [(s13 (b + 1) (by omega)).1]; exact c1
      have r03 : gR h3 b 0 = some (b + 1) := by rw [(s13 b (by omega)).2.2]; exact r0
      have ckq : (gK h3 q).1 = 6 := e3.1
      have hnx := ih (i + 1) (sR h3 (b + 1) i (some q)) (by omega) (by rw [mK_sR]; exact c03) (by rw [mK_sR]; exact c13) (by rw [mR_s2 _ _ (Or.inl (by omega))]; exact r03) (by rw [mS_sR, g3]; omega) (fun a ha => (s1 a ha).tr ((s13 a (by omega)).tr (Sa.r (by omega)))) (fun j hj => by
        by_cases e : j = i
        · rw [e, mR_s1, g1]
        · rw [mR_s2 _ _ (Or.inr e), (s13 (b + 1) (by omega)).2.2]
          exact ra j (by omega)) (fun j hj => by
        by_cases e : j = i
        · rw [e, ← g1]
          exact e3.sm (fun a q1 q2 => Sa.r (by omega))
        · exact (st j (by omega)).sm (fun a q1 q2 => (s13 a (by omega)).tr (Sa.r (by omega))))
      rw [show 1 + 5 * (i + 1) = 1 + 5 * i + 1 + 4 by omega, show 10 + 74 * (i + 1) = 10 + 74 * i + 6 + 68 by omega] at hnx
      clear ih hQ s1 ra st s2 s3 s13 e3
      refine z_run1 tsX0_init [15] 20 ?_
      simp (maxSteps := 1000000) -implicitDefEqProofs +contextual (disch := omega) only [z_wp_t, z_wp_u, ↓pI_e, ↓pL_e, ↓pO_e, ↓pR_e, ↓p1_I, ↓p1_O, z_gl, z_st1, z_st2, z_nl_I, z_nl_O, z_nl_J, z_nl_L, if_true, if_false, ite_true, ite_false, true_and, and_true, List.mem_cons, List.not_mem_nil, or_false, false_or, or_self, List.length_cons, List.length_nil, InR_t, InL_t, z_ix_t, mI_s1, mI_s2, ↓brT, ↓brF, ↓brT', ↓brF', mL_sI, mR_sI, mK_sI, mS_sI, mI_sL, mL_s1, mL_s2, mR_sL, mK_sL, mS_sL, mI_sR, mL_sR, mR_s1, mR_s2, mK_sR, mS_sR, mA_s1, mA_s2, mL_sA, mR_sA, mK_sA, mS_sA, ix_n, ix_a, ix_m, ix_s, z_sw, z_stop, forall_const, true_implies, false_implies, imp_self, implies_true, not_true_eq_false, not_false_eq_true, ne_eq, eq_self, Option.some.injEq, reduceCtorEq, Nat.reduceAdd, Nat.reduceSub, Nat.reduceMul, Nat.reduceEqDiff, Nat.reduceLT, Nat.reduceLeDiff, Int.reduceAdd, Int.reduceMul, Int.reduceSub, Int.reduceNeg, Int.reduceToNat, Int.reduceLT, Int.reduceLE, Int.reduceEq, ↓reduceIte, List.reverse_cons, Option.toList, List.cons_append, List.nil_append, vI_inj, vL_inj, vO_inj, rI, rL, rO, rV, mI_sQ, mL_sQ, mK_sQ, mS_sQ, mQ_s1, mQ_s2, iL_and, iL_or, iL_xor, iL_shl, iL_ushr, iR_and, iR_or, iR_xor, iR_shl, iR_shr, iR_ushr, iR_cmp, yc0, tlX0_init, tkX0_init, o_aast, o_aload, o_dup, o_getR, o_goto, o_ic, o_icge, o_iinc, o_iload, o_istore, o_oinit, o_putI, o_putR, o_vret, c13, ckq]
      try simp +contextual (disch := omega) only [impF, impT, and_true, true_and, implies_true, not_false_eq_true, not_true_eq_false]
      exact ⟨fun v hv => by rw [← hv]; exact ckq, hnx⟩
  refine z_run1 tsX0_init [] 20 ?_
  simp (maxSteps := 1000000) -implicitDefEqProofs +contextual (disch := omega) only [z_wp_t, z_wp_u, ↓pI_e, ↓pL_e, ↓pO_e, ↓pR_e, ↓p1_I, ↓p1_O, z_gl, z_st1, z_st2, z_nl_I, z_nl_O, z_nl_J, z_nl_L, if_true, if_false, ite_true, ite_false, true_and, and_true, List.mem_cons, List.not_mem_nil, or_false, false_or, or_self, List.length_cons, List.length_nil, InR_t, InL_t, z_ix_t, mI_s1, mI_s2, ↓brT, ↓brF, ↓brT', ↓brF', mL_sI, mR_sI, mK_sI, mS_sI, mI_sL, mL_s1, mL_s2, mR_sL, mK_sL, mS_sL, mI_sR, mL_sR, mR_s1, mR_s2, mK_sR, mS_sR, mA_s1, mA_s2, mL_sA, mR_sA, mK_sA, mS_sA, ix_n, ix_a, ix_m, ix_s, z_sw, z_stop, forall_const, true_implies, false_implies, imp_self, implies_true, not_true_eq_false, not_false_eq_true, ne_eq, eq_self, Option.some.injEq, reduceCtorEq, Nat.reduceAdd, Nat.reduceSub, Nat.reduceMul, Nat.reduceEqDiff, Nat.reduceLT, Nat.reduceLeDiff, Int.reduceAdd, Int.reduceMul, Int.reduceSub, Int.reduceNeg, Int.reduceToNat, Int.reduceLT, Int.reduceLE, Int.reduceEq, ↓reduceIte, List.reverse_cons, Option.toList, List.cons_append, List.nil_append, vI_inj, vL_inj, vO_inj, rI, rL, rO, rV, mI_sQ, mL_sQ, mK_sQ, mS_sQ, mQ_s1, mQ_s2, iL_and, iL_or, iL_xor, iL_shl, iL_ushr, iR_and, iR_or, iR_xor, iR_shl, iR_shr, iR_ushr, iR_cmp, yc0, tlX0_init, tkX0_init, o_aast, o_aload, o_dup, o_getR, o_goto, o_ic, o_icge, o_iinc, o_iload, o_istore, o_oinit, o_putI, o_putR, o_vret]
  try simp +contextual (disch := omega) only [impF, impT, and_true, true_and, implies_true, not_false_eq_true, not_true_eq_false]
  refine x_newq 13 6 10 (by decide +kernel) (Or.inr ⟨rfl, rfl⟩) lw_X0_9 (by omega) (by omega) (by omega) ?_
  have hne : b ≠ gS h := by omega
  have h0 := hlo 10 0 (sR (nC h (13, 10)) b 0 (some (gS h))) (by omega) (by rw [mK_sR, mK_n2 _ _ hne]; exact k0) (by rw [mK_sR, ← hq, mK_n1]) (by rw [mR_s1, hq]) (by rw [mS_sR, mS_nC, hq]) (fun a ha => (Sa.n (by omega)).tr (Sa.r (by omega))) (fun j hj => by omega) (fun j hj => by omega)
  clear hlo hQ
  refine z_run1 tsX0_init [15] 30 ?_
  simp (maxSteps := 1000000) -implicitDefEqProofs +contextual (disch := omega) only [z_wp_t, z_wp_u, ↓pI_e, ↓pL_e, ↓pO_e, ↓pR_e, ↓p1_I, ↓p1_O, z_gl, z_st1, z_st2, z_nl_I, z_nl_O, z_nl_J, z_nl_L, if_true, if_false, ite_true, ite_false, true_and, and_true, List.mem_cons, List.not_mem_nil, or_false, false_or, or_self, List.length_cons, List.length_nil, InR_t, InL_t, z_ix_t, mI_s1, mI_s2, ↓brT, ↓brF, ↓brT', ↓brF', mL_sI, mR_sI, mK_sI, mS_sI, mI_sL, mL_s1, mL_s2, mR_sL, mK_sL, mS_sL, mI_sR, mL_sR, mR_s1, mR_s2, mK_sR, mS_sR, mA_s1, mA_s2, mL_sA, mR_sA, mK_sA, mS_sA, ix_n, ix_a, ix_m, ix_s, z_sw, z_stop, forall_const, true_implies, false_implies, imp_self, implies_true, not_true_eq_false, not_false_eq_true, ne_eq, eq_self, Option.some.injEq, reduceCtorEq, Nat.reduceAdd, Nat.reduceSub, Nat.reduceMul, Nat.reduceEqDiff, Nat.reduceLT, Nat.reduceLeDiff, Int.reduceAdd, Int.reduceMul, Int.reduceSub, Int.reduceNeg, Int.reduceToNat, Int.reduceLT, Int.reduceLE, Int.reduceEq, ↓reduceIte, List.reverse_cons, Option.toList, List.cons_append, List.nil_append, vI_inj, vL_inj, vO_inj, rI, rL, rO, rV, mI_sQ, mL_sQ, mK_sQ, mS_sQ, mQ_s1, mQ_s2, iL_and, iL_or, iL_xor, iL_shl, iL_ushr, iR_and, iR_or, iR_xor, iR_shl, iR_shr, iR_ushr, iR_cmp, yc0, tlX0_init, tkX0_init, o_aast, o_aload, o_dup, o_getR, o_goto, o_ic, o_icge, o_iinc, o_iload, o_istore, o_oinit, o_putI, o_putR, o_vret, mK_n2, k0]
  try simp +contextual (disch := omega) only [impF, impT, and_true, true_and, implies_true, not_false_eq_true, not_true_eq_false]
  exact h0
