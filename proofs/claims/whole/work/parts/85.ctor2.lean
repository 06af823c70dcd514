/-! constructors: Outcome, History, RuleText -/
def OuE (h : zH) (o : Nat) : Prop := ShO h o ∧ StE h (o + 1) ∧ gI h (o + 6) 10 = 0 ∧ gI h o 3 = 0 ∧ gI h o 5 = 0 ∧ gI h o 7 = 0 ∧ gI h o 9 = 0 ∧ gI h o 10 = 0
theorem ShP.sm {h h' : zH} {z : Nat} (hs : ∀ a, z ≤ a → a ≤ z + 5 → Sa h h' a) (hE : ShP h z) : ShP h' z := by
  unfold ShP
  rw [(hs z (by omega) (by omega)).1, (hs (z + 1) (by omega) (by omega)).1, (hs (z + 2) (by omega) (by omega)).1, (hs (z + 3) (by omega) (by omega)).1, (hs (z + 4) (by omega) (by omega)).1, (hs (z + 5) (by omega) (by omega)).1, (hs z (by omega) (by omega)).2.2]
  exact hE
theorem OuE.sm {h h' : zH} {o : Nat} (hs : ∀ a, o ≤ a → a ≤ o + 15 → Sa h h' a) (hE : OuE h o) : OuE h' o := by
  obtain ⟨⟨b1, b2, b3, b4, b5, b6, b7, b8, b9, b10, b11, b12⟩, c1, c2, c3⟩ := hE
  obtain ⟨k0, i0, r0⟩ := hs o (by omega) (by omega)
  obtain ⟨k6, i6, r6⟩ := hs (o + 6) (by omega) (by omega)
  refine ⟨⟨?_, ?_, ?_, ?_, ?_, ?_, ?_, ?_, ?_, ?_, ?_, b12.sm (fun a q1 q2 => hs a (by omega) (by omega))⟩, c1.sm (fun a q1 q2 => hs a (by omega) (by omega)), by rw [i6]; exact c2, by rw [i0]; exact c3⟩
  · rw [k0]; exact b1
  · rw [(hs (o + 12) (by omega) (by omega)).1]; exact b2
  · rw [(hs (o + 13) (by omega) (by omega)).1]; exact b3
  · rw [(hs (o + 14) (by omega) (by omega)).1]; exact b4
  · rw [(hs (o + 15) (by omega) (by omega)).1]; exact b5
  · rw [r0]; exact b6
  · rw [r0]; exact b7
  · rw [r0]; exact b8
  · rw [r0]; exact b9
  · rw [r0]; exact b10
  · rw [r0]; exact b11
def slO (i : Nat) : Nat := 11 + i
def kdO (_ : Nat) : Nat × Nat := (9, 8)
set_option maxRecDepth 4000 in
set_option maxHeartbeats 4000000 in
theorem sp_OcInit (l : Launch) (G : zG) (h : zH) (o : Nat) (k0 : (gK h o).1 = 1) (hq : gS h = o + 1) (hz : ∀ k, gI h o k = 0) (lv : Nat) (hlv : 3 ≤ lv) : z_Sp l G mtX1_init lv 15 237 [vR o] (h) (fun r h' => r = none ∧ gS h' = o + 16 ∧ (∀ a, a < o → Sa h h' a) ∧ OuE h' o) := by
  refine x_enter [vR o] (by decide +kernel) (by omega) rfl (Nat.le_of_ble_eq_true rfl) ?_
  generalize hQ : (fun (r : Option zV) (h' : zH) => r = none ∧ gS h' = o + 16 ∧ (∀ a, a < o → Sa h h' a) ∧ OuE h' o) = QQ
  refine z_run1 tsX1_init [] 20 ?_
  simp (maxSteps := 1000000) -implicitDefEqProofs +contextual (disch := omega) only [z_wp_t, z_wp_u, ↓pI_e, ↓pL_e, ↓pO_e, ↓pR_e, ↓p1_I, ↓p1_O, z_gl, z_st1, z_st2, z_nl_I, z_nl_O, z_nl_J, z_nl_L, if_true, if_false, ite_true, ite_false, true_and, and_true, List.mem_cons, List.not_mem_nil, or_false, false_or, or_self, List.length_cons, List.length_nil, InR_t, InL_t, z_ix_t, mI_s1, mI_s2, ↓brT, ↓brF, ↓brT', ↓brF', mL_sI, mR_sI, mK_sI, mS_sI, mI_sL, mL_s1, mL_s2, mR_sL, mK_sL, mS_sL, mI_sR, mL_sR, mR_s1, mR_s2, mK_sR, mS_sR, mA_s1, mA_s2, mL_sA, mR_sA, mK_sA, mS_sA, ix_n, ix_a, ix_m, ix_s, z_sw, z_stop, forall_const, true_implies, false_implies, imp_self, implies_true, not_true_eq_false, not_false_eq_true, ne_eq, eq_self, Option.some.injEq, reduceCtorEq, Nat.reduceAdd, Nat.reduceSub, Nat.reduceMul, Nat.reduceEqDiff, Nat.reduceLT, Nat.reduceLeDiff, Int.reduceAdd, Int.reduceMul, Int.reduceSub, Int.reduceNeg, Int.reduceToNat, Int.reduceLT, Int.reduceLE, Int.reduceEq, ↓reduceIte, List.reverse_cons, Option.toList, List.cons_append, List.nil_append, vI_inj, vL_inj, vO_inj, rI, rL, rO, rV, mI_sQ, mL_sQ, mK_sQ, mS_sQ, mQ_s1, mQ_s2, iL_and, iL_or, iL_xor, iL_shl, iL_ushr, iR_and, iR_or, iR_xor, iR_shl, iR_shr, iR_ushr, iR_cmp, yc0, tlX1_init, tkX1_init, o_aload, o_dup, o_ic, o_oinit, o_putR, o_vret]
  try simp +contextual (disch := omega) only [impF, impT, and_true, true_and, implies_true, not_false_eq_true, not_true_eq_false]
  refine x_new 6 (by decide +kernel) (by decide) lw_X1_9 nw_X6 in_X6 (by omega) (by decide) ?_
  rw [hq, show z_nf 6 = 6 from rfl]
  have s1 : ∀ a, a < o + 1 → Sa h (nC h (6, 0)) a := fun a ha => Sa.n (by omega)
  have ks : (gK (nC h (6, 0)) (o + 1)).1 = 6 := by rw [← hq, mK_n1]
  have g1 : gS (nC h (6, 0)) = o + 1 + 1 := by rw [mS_nC, hq]
  generalize nC h (6, 0) = h1 at *
  refine z_run1 tsX1_init [] 20 ?_
  simp (maxSteps := 1000000) -implicitDefEqProofs +contextual (disch := omega) only [z_wp_t, z_wp_u, ↓pI_e, ↓pL_e, ↓pO_e, ↓pR_e, ↓p1_I, ↓p1_O, z_gl, z_st1, z_st2, z_nl_I, z_nl_O, z_nl_J, z_nl_L, if_true, if_false, ite_true, ite_false, true_and, and_true, List.mem_cons, List.not_mem_nil, or_false, false_or, or_self, List.length_cons, List.length_nil, InR_t, InL_t, z_ix_t, mI_s1, mI_s2, ↓brT, ↓brF, ↓brT', ↓brF', mL_sI, mR_sI, mK_sI, mS_sI, mI_sL, mL_s1, mL_s2, mR_sL, mK_sL, mS_sL, mI_sR, mL_sR, mR_s1, mR_s2, mK_sR, mS_sR, mA_s1, mA_s2, mL_sA, mR_sA, mK_sA, mS_sA, ix_n, ix_a, ix_m, ix_s, z_sw, z_stop, forall_const, true_implies, false_implies, imp_self, implies_true, not_true_eq_false, not_false_eq_true, ne_eq, eq_self, Option.some.injEq, reduceCtorEq, Nat.reduceAdd, Nat.reduceSub, Nat.reduceMul, Nat.reduceEqDiff, Nat.reduceLT, Nat.reduceLeDiff, Int.reduceAdd, Int.reduceMul, Int.reduceSub, Int.reduceNeg, Int.reduceToNat, Int.reduceLT, Int.reduceLE, Int.reduceEq, ↓reduceIte, List.reverse_cons, Option.toList, List.cons_append, List.nil_append, vI_inj, vL_inj, vO_inj, rI, rL, rO, rV, mI_sQ, mL_sQ, mK_sQ, mS_sQ, mQ_s1, mQ_s2, iL_and, iL_or, iL_xor, iL_shl, iL_ushr, iR_and, iR_or, iR_xor, iR_shl, iR_shr, iR_ushr, iR_cmp, yc0, tlX1_init, tkX1_init, o_aload, o_dup, o_ic, o_oinit, o_putR, o_vret]
  try simp +contextual (disch := omega) only [impF, impT, and_true, true_and, implies_true, not_false_eq_true, not_true_eq_false]
  refine x_callI (by decide +kernel) cv_X1_11 (sp_StInit l G h1 (o + 1) ks g1 2 (by omega)) (by omega) rfl (by omega) (by omega) rfl (Nat.le_of_ble_eq_true rfl) ?_
  rintro r h2 ⟨rfl, g2, s2, e2⟩
  have k2 : (gK h2 o).1 = 1 := by rw [((s1 o (by omega)).tr (s2 o (by omega))).1]; exact k0
  have s02 : ∀ a, a < o + 1 → Sa h h2 a := fun a ha => (s1 a ha).tr (s2 a ha)
  refine z_run1 tsX1_init [] 20 ?_
  simp (maxSteps := 1000000) -implicitDefEqProofs +contextual (disch := omega) only [z_wp_t, z_wp_u, ↓pI_e, ↓pL_e, ↓pO_e, ↓pR_e, ↓p1_I, ↓p1_O, z_gl, z_st1, z_st2, z_nl_I, z_nl_O, z_nl_J, z_nl_L, if_true, if_false, ite_true, ite_false, true_and, and_true, List.mem_cons, List.not_mem_nil, or_false, false_or, or_self, List.length_cons, List.length_nil, InR_t, InL_t, z_ix_t, mI_s1, mI_s2, ↓brT, ↓brF, ↓brT', ↓brF', mL_sI, mR_sI, mK_sI, mS_sI, mI_sL, mL_s1, mL_s2, mR_sL, mK_sL, mS_sL, mI_sR, mL_sR, mR_s1, mR_s2, mK_sR, mS_sR, mA_s1, mA_s2, mL_sA, mR_sA, mK_sA, mS_sA, ix_n, ix_a, ix_m, ix_s, z_sw, z_stop, forall_const, true_implies, false_implies, imp_self, implies_true, not_true_eq_false, not_false_eq_true, ne_eq, eq_self, Option.some.injEq, reduceCtorEq, Nat.reduceAdd, Nat.reduceSub, Nat.reduceMul, Nat.reduceEqDiff, Nat.reduceLT, Nat.reduceLeDiff, Int.reduceAdd, Int.reduceMul, Int.reduceSub, Int.reduceNeg, Int.reduceToNat, Int.reduceLT, Int.reduceLE, Int.reduceEq, ↓reduceIte, List.reverse_cons, Option.toList, List.cons_append, List.nil_append, vI_inj, vL_inj, vO_inj, rI, rL, rO, rV, mI_sQ, mL_sQ, mK_sQ, mS_sQ, mQ_s1, mQ_s2, iL_and, iL_or, iL_xor, iL_shl, iL_ushr, iR_and, iR_or, iR_xor, iR_shl, iR_shr, iR_ushr, iR_cmp, yc0, tlX1_init, tkX1_init, o_aload, o_dup, o_ic, o_oinit, o_putR, o_vret, k2]
  try simp +contextual (disch := omega) only [impF, impT, and_true, true_and, implies_true, not_false_eq_true, not_true_eq_false]
  have e3 : StE (sR h2 o 0 (some (o + 1))) (o + 1) := e2.sm (fun a q1 q2 => Sa.r (by omega))
  have s3 : ∀ a, a < o → Sa h (sR h2 o 0 (some (o + 1))) a := fun a ha => (s02 a (by omega)).tr (Sa.r (by omega))
  have k3 : (gK (sR h2 o 0 (some (o + 1))) o).1 = 1 := k2
  have g3 : gS (sR h2 o 0 (some (o + 1))) = o + 6 := by rw [mS_sR, g2]
  have i3 : ∀ k, gI (sR h2 o 0 (some (o + 1))) o k = 0 := fun k => by
    show gI h2 o k = 0
    rw [(s02 o (by omega)).2.1]; exact hz k
  have r3 : gR (sR h2 o 0 (some (o + 1))) o 0 = some (o + 1) := mR_s1 _ _ _ _
  generalize sR h2 o 0 (some (o + 1)) = h3 at *
  refine x_new 2 (by decide +kernel) (by decide) lw_X1_18 nw_X2 in_X2 (by omega) (by decide) ?_
  rw [g3, show z_nf 2 = 11 from rfl]
  have s4 : ∀ a, a < o + 6 → Sa h3 (nC h3 (2, 0)) a := fun a ha => Sa.n (by omega)
  have kp : (gK (nC h3 (2, 0)) (o + 6)).1 = 2 := by rw [← g3, mK_n1]
  have ip : gI (nC h3 (2, 0)) (o + 6) 10 = 0 := by rw [← g3, mI_nC, if_pos rfl]
  have g4 : gS (nC h3 (2, 0)) = o + 6 + 1 := by rw [mS_nC, g3]
  generalize nC h3 (2, 0) = h4 at *
  refine z_run1 tsX1_init [] 20 ?_
  simp (maxSteps := 1000000) -implicitDefEqProofs +contextual (disch := omega) only [z_wp_t, z_wp_u, ↓pI_e, ↓pL_e, ↓pO_e, ↓pR_e, ↓p1_I, ↓p1_O, z_gl, z_st1, z_st2, z_nl_I, z_nl_O, z_nl_J, z_nl_L, if_true, if_false, ite_true, ite_false, true_and, and_true, List.mem_cons, List.not_mem_nil, or_false, false_or, or_self, List.length_cons, List.length_nil, InR_t, InL_t, z_ix_t, mI_s1, mI_s2, ↓brT, ↓brF, ↓brT', ↓brF', mL_sI, mR_sI, mK_sI, mS_sI, mI_sL, mL_s1, mL_s2, mR_sL, mK_sL, mS_sL, mI_sR, mL_sR, mR_s1, mR_s2, mK_sR, mS_sR, mA_s1, mA_s2, mL_sA, mR_sA, mK_sA, mS_sA, ix_n, ix_a, ix_m, ix_s, z_sw, z_stop, forall_const, true_implies, false_implies, imp_self, implies_true, not_true_eq_false, not_false_eq_true, ne_eq, eq_self, Option.some.injEq, reduceCtorEq, Nat.reduceAdd, Nat.reduceSub, Nat.reduceMul, Nat.reduceEqDiff, Nat.reduceLT, Nat.reduceLeDiff, Int.reduceAdd, Int.reduceMul, Int.reduceSub, Int.reduceNeg, Int.reduceToNat, Int.reduceLT, Int.reduceLE, Int.reduceEq, ↓reduceIte, List.reverse_cons, Option.toList, List.cons_append, List.nil_append, vI_inj, vL_inj, vO_inj, rI, rL, rO, rV, mI_sQ, mL_sQ, mK_sQ, mS_sQ, mQ_s1, mQ_s2, iL_and, iL_or, iL_xor, iL_shl, iL_ushr, iR_and, iR_or, iR_xor, iR_shl, iR_shr, iR_ushr, iR_cmp, yc0, tlX1_init, tkX1_init, o_aload, o_dup, o_ic, o_oinit, o_putR, o_vret]
  try simp +contextual (disch := omega) only [impF, impT, and_true, true_and, implies_true, not_false_eq_true, not_true_eq_false]
  refine x_callI (by decide +kernel) cv_X1_20 (sp_PzInit l G h4 (o + 6) kp g4 ip 2 (by omega)) (by omega) rfl (by omega) (by omega) rfl (Nat.le_of_ble_eq_true rfl) ?_
  rintro r h5 ⟨rfl, g5, s5, e5⟩
  have s35 : ∀ a, a < o + 6 → Sa h3 h5 a := fun a ha => (s4 a ha).tr (s5 a ha)
  have k5 : (gK h5 o).1 = 1 := by rw [(s35 o (by omega)).1]; exact k3
  refine z_run1 tsX1_init [] 20 ?_
  simp (maxSteps := 1000000) -implicitDefEqProofs +contextual (disch := omega) only [z_wp_t, z_wp_u, ↓pI_e, ↓pL_e, ↓pO_e, ↓pR_e, ↓p1_I, ↓p1_O, z_gl, z_st1, z_st2, z_nl_I, z_nl_O, z_nl_J, z_nl_L, if_true, if_false, ite_true, ite_false, true_and, and_true, List.mem_cons, List.not_mem_nil, or_false, false_or, or_self, List.length_cons, List.length_nil, InR_t, InL_t, z_ix_t, mI_s1, mI_s2, ↓brT, ↓brF, ↓brT', ↓brF', mL_sI, mR_sI, mK_sI, mS_sI, mI_sL, mL_s1, mL_s2, mR_sL, mK_sL, mS_sL, mI_sR, mL_sR, mR_s1, mR_s2, mK_sR, mS_sR, mA_s1, mA_s2, mL_sA, mR_sA, mK_sA, mS_sA, ix_n, ix_a, ix_m, ix_s, z_sw, z_stop, forall_const, true_implies, false_implies, imp_self, implies_true, not_true_eq_false, not_false_eq_true, ne_eq, eq_self, Option.some.injEq, reduceCtorEq, Nat.reduceAdd, Nat.reduceSub, Nat.reduceMul, Nat.reduceEqDiff, Nat.reduceLT, Nat.reduceLeDiff, Int.reduceAdd, Int.reduceMul, Int.reduceSub, Int.reduceNeg, Int.reduceToNat, Int.reduceLT, Int.reduceLE, Int.reduceEq, ↓reduceIte, List.reverse_cons, Option.toList, List.cons_append, List.nil_append, vI_inj, vL_inj, vO_inj, rI, rL, rO, rV, mI_sQ, mL_sQ, mK_sQ, mS_sQ, mQ_s1, mQ_s2, iL_and, iL_or, iL_xor, iL_shl, iL_ushr, iR_and, iR_or, iR_xor, iR_shl, iR_shr, iR_ushr, iR_cmp, yc0, tlX1_init, tkX1_init, o_aload, o_dup, o_ic, o_oinit, o_putR, o_vret, k5]
  try simp +contextual (disch := omega) only [impF, impT, and_true, true_and, implies_true, not_false_eq_true, not_true_eq_false]
  have e6 : PuE (sR h5 o 1 (some (o + 6))) (o + 6) := e5.sm (fun a q1 q2 => Sa.r (by omega))
  have e6' : StE (sR h5 o 1 (some (o + 6))) (o + 1) := e3.sm (fun a q1 q2 => (s35 a (by omega)).tr (Sa.r (by omega)))
  have s6 : ∀ a, a < o → Sa h (sR h5 o 1 (some (o + 6))) a := fun a ha => (s3 a ha).tr ((s35 a (by omega)).tr (Sa.r (by omega)))
  have k6 : (gK (sR h5 o 1 (some (o + 6))) o).1 = 1 := k5
  have g6 : gS (sR h5 o 1 (some (o + 6))) = o + 12 := by rw [mS_sR, g5]
  have i6 : ∀ k, gI (sR h5 o 1 (some (o + 6))) o k = 0 := fun k => by
    show gI h5 o k = 0
    rw [(s35 o (by omega)).2.1]; exact i3 k
  have r60 : gR (sR h5 o 1 (some (o + 6))) o 0 = some (o + 1) := by rw [mR_s2 _ _ (Or.inr (by omega)), (s35 o (by omega)).2.2]; exact r3
  have r61 : gR (sR h5 o 1 (some (o + 6))) o 1 = some (o + 6) := mR_s1 _ _ _ _
  generalize sR h5 o 1 (some (o + 6)) = h6 at *
  have a0 : Ar h6 h6 o (o + 12) 0 slO kdO := Ar.z g6
  have fin : ∀ h9, Ar h6 h9 o (o + 12) 4 slO kdO → QQ none h9 := by
    intro h9 hA
    obtain ⟨a1, a2, a3, a4, a5, a6⟩ := hA
    rw [← hQ]
    refine ⟨rfl, a1, fun a ha => (s6 a ha).tr (a2 a (by omega) (by omega)), ⟨?_, (a6 0 (by omega)).1, (a6 1 (by omega)).1, (a6 2 (by omega)).1, (a6 3 (by omega)).1, ?_, ?_, (a6 0 (by omega)).2.1, (a6 1 (by omega)).2.1, (a6 2 (by omega)).2.1, (a6 3 (by omega)).2.1, e6.1.sm (fun a q1 q2 => a2 a (by omega) (by omega))⟩, e6'.sm (fun a q1 q2 => a2 a (by omega) (by omega)), ?_, ?_, ?_, ?_, ?_, ?_⟩
    · rw [a3]; exact k6
    · rw [a5 0 (fun i hi => by unfold slO; omega)]; exact r60
    · rw [a5 1 (fun i hi => by unfold slO; omega)]; exact r61
    · rw [(a2 (o + 6) (by omega) (by omega)).2.1]; exact e6.2
    all_goals (rw [a4]; exact i6 _)
  clear hQ s02 s1 s2 s3 s4 s5 s35 s6 e2 e3 e5 e6 e6' i3 i6 hz
  have hne : o ≠ gS h6 := by have := a0.1; omega
  have kk0 : (gK h6 o).1 = 1 := by rw [a0.2.2.1]; exact k6
  refine x_newai 8 (by decide +kernel) ar_int (by omega) (by omega) (by omega) ?_
  have a1 := a0.st (by omega) (by decide) (9, 8) 11 rfl rfl
  refine z_run1 tsX1_init [] 30 ?_
  simp (maxSteps := 1000000) -implicitDefEqProofs +contextual (disch := omega) only [z_wp_t, z_wp_u, ↓pI_e, ↓pL_e, ↓pO_e, ↓pR_e, ↓p1_I, ↓p1_O, z_gl, z_st1, z_st2, z_nl_I, z_nl_O, z_nl_J, z_nl_L, if_true, if_false, ite_true, ite_false, true_and, and_true, List.mem_cons, List.not_mem_nil, or_false, false_or, or_self, List.length_cons, List.length_nil, InR_t, InL_t, z_ix_t, mI_s1, mI_s2, ↓brT, ↓brF, ↓brT', ↓brF', mL_sI, mR_sI, mK_sI, mS_sI, mI_sL, mL_s1, mL_s2, mR_sL, mK_sL, mS_sL, mI_sR, mL_sR, mR_s1, mR_s2, mK_sR, mS_sR, mA_s1, mA_s2, mL_sA, mR_sA, mK_sA, mS_sA, ix_n, ix_a, ix_m, ix_s, z_sw, z_stop, forall_const, true_implies, false_implies, imp_self, implies_true, not_true_eq_false, not_false_eq_true, ne_eq, eq_self, Option.some.injEq, reduceCtorEq, Nat.reduceAdd, Nat.reduceSub, Nat.reduceMul, Nat.reduceEqDiff, Nat.reduceLT, Nat.reduceLeDiff, Int.reduceAdd, Int.reduceMul, Int.reduceSub, Int.reduceNeg, Int.reduceToNat, Int.reduceLT, Int.reduceLE, Int.reduceEq, ↓reduceIte, List.reverse_cons, Option.toList, List.cons_append, List.nil_append, vI_inj, vL_inj, vO_inj, rI, rL, rO, rV, mI_sQ, mL_sQ, mK_sQ, mS_sQ, mQ_s1, mQ_s2, iL_and, iL_or, iL_xor, iL_shl, iL_ushr, iR_and, iR_or, iR_xor, iR_shl, iR_shr, iR_ushr, iR_cmp, yc0, tlX1_init, tkX1_init, o_aload, o_dup, o_ic, o_oinit, o_putR, o_vret, mK_n2, kk0]
  try simp +contextual (disch := omega) only [impF, impT, and_true, true_and, implies_true, not_false_eq_true, not_true_eq_false]
  generalize sR (nC h6 (9, 8)) o 11 (some (gS h6)) = h7 at *
  have hne : o ≠ gS h7 := by have := a1.1; omega
  have kk1 : (gK h7 o).1 = 1 := by rw [a1.2.2.1]; exact k6
  refine x_newai 8 (by decide +kernel) ar_int (by omega) (by omega) (by omega) ?_
  have a2 := a1.st (by omega) (by decide) (9, 8) 12 rfl rfl
  refine z_run1 tsX1_init [] 30 ?_
  simp (maxSteps := 1000000) -implicitDefEqProofs +contextual (disch := omega) only [z_wp_t, z_wp_u, ↓pI_e, ↓pL_e, ↓pO_e, ↓pR_e, ↓p1_I, ↓p1_O, z_gl, z_st1, z_st2, z_nl_I, z_nl_O, z_nl_J, z_nl_L, if_true, if_false, ite_true, ite_false, true_and, and_true, List.mem_cons, List.not_mem_nil, or_false, false_or, or_self, List.length_cons, List.length_nil, InR_t, InL_t, z_ix_t, mI_s1, mI_s2, ↓brT, ↓brF, ↓brT', ↓brF', mL_sI, mR_sI, mK_sI, mS_sI, mI_sL, mL_s1, mL_s2, mR_sL, mK_sL, mS_sL, mI_sR, mL_sR, mR_s1, mR_s2, mK_sR, mS_sR, mA_s1, mA_s2, mL_sA, mR_sA, mK_sA, mS_sA, ix_n, ix_a, ix_m, ix_s, z_sw, z_stop, forall_const, true_implies, false_implies, imp_self, implies_true, not_true_eq_false, not_false_eq_true, ne_eq, eq_self, Option.some.injEq, reduceCtorEq, Nat.reduceAdd, Nat.reduceSub, Nat.reduceMul, Nat.reduceEqDiff, Nat.reduceLT, Nat.reduceLeDiff, Int.reduceAdd, Int.reduceMul, Int.reduceSub, Int.reduceNeg, Int.reduceToNat, Int.reduceLT, Int.reduceLE, Int.reduceEq, ↓reduceIte, List.reverse_cons, Option.toList, List.cons_append, List.nil_append, vI_inj, vL_inj, vO_inj, rI, rL, rO, rV, mI_sQ, mL_sQ, mK_sQ, mS_sQ, mQ_s1, mQ_s2, iL_and, iL_or, iL_xor, iL_shl, iL_ushr, iR_and, iR_or, iR_xor, iR_shl, iR_shr, iR_ushr, iR_cmp, yc0, tlX1_init, tkX1_init, o_aload, o_dup, o_ic, o_oinit, o_putR, o_vret, mK_n2, kk1]
  try simp +contextual (disch := omega) only [impF, impT, and_true, true_and, implies_true, not_false_eq_true, not_true_eq_false]
  generalize sR (nC h7 (9, 8)) o 12 (some (gS h7)) = h8 at *
  have hne : o ≠ gS h8 := by have := a2.1; omega
  have kk2 : (gK h8 o).1 = 1 := by rw [a2.2.2.1]; exact k6
  refine x_newai 8 (by decide +kernel) ar_int (by omega) (by omega) (by omega) ?_
  have a3 := a2.st (by omega) (by decide) (9, 8) 13 rfl rfl
  refine z_run1 tsX1_init [] 30 ?_
  simp (maxSteps := 1000000) -implicitDefEqProofs +contextual (disch := omega) only [z_wp_t, z_wp_u, ↓pI_e, ↓pL_e, ↓pO_e, ↓pR_e, ↓p1_I, ↓p1_O, z_gl, z_st1, z_st2, z_nl_I, z_nl_O, z_nl_J, z_nl_L, if_true, if_false, ite_true, ite_false, true_and, and_true, List.mem_cons, List.not_mem_nil, or_false, false_or, or_self, List.length_cons, List.length_nil, InR_t, InL_t, z_ix_t, mI_s1, mI_s2, ↓brT, ↓brF, ↓brT', ↓brF', mL_sI, mR_sI, mK_sI, mS_sI, mI_sL, mL_s1, mL_s2, mR_sL, mK_sL, mS_sL, mI_sR, mL_sR, mR_s1, mR_s2, mK_sR, mS_sR, mA_s1, mA_s2, mL_sA, mR_sA, mK_sA, mS_sA, ix_n, ix_a, ix_m, ix_s, z_sw, z_stop, forall_const, true_implies, false_implies, imp_self, implies_true, not_true_eq_false, not_false_eq_true, ne_eq, eq_self, Option.some.injEq, reduceCtorEq, Nat.reduceAdd, Nat.reduceSub, Nat.reduceMul, Nat.reduceEqDiff, Nat.reduceLT, Nat.reduceLeDiff, Int.reduceAdd, Int.reduceMul, Int.reduceSub, Int.reduceNeg, Int.reduceToNat, Int.reduceLT, Int.reduceLE, Int.reduceEq, ↓reduceIte, List.reverse_cons, Option.toList, List.cons_append, List.nil_append, vI_inj, vL_inj, vO_inj, rI, rL, rO, rV, mI_sQ, mL_sQ, mK_sQ, mS_sQ, mQ_s1, mQ_s2, iL_and, iL_or, iL_xor, iL_shl, iL_ushr, iR_and, iR_or, iR_xor, iR_shl, iR_shr, iR_ushr, iR_cmp, yc0, tlX1_init, tkX1_init, o_aload, o_dup, o_ic, o_oinit, o_putR, o_vret, mK_n2, kk2]
  try simp +contextual (disch := omega) only [impF, impT, and_true, true_and, implies_true, not_false_eq_true, not_true_eq_false]
  generalize sR (nC h8 (9, 8)) o 13 (some (gS h8)) = h9 at *
  have hne : o ≠ gS h9 := by have := a3.1; omega
  have kk3 : (gK h9 o).1 = 1 := by rw [a3.2.2.1]; exact k6
  refine x_newai 8 (by decide +kernel) ar_int (by omega) (by omega) (by omega) ?_
  have a4 := a3.st (by omega) (by decide) (9, 8) 14 rfl rfl
  have fin := fin _ a4
  refine z_run1 tsX1_init [] 30 ?_
  simp (maxSteps := 1000000) -implicitDefEqProofs +contextual (disch := omega) only [z_wp_t, z_wp_u, ↓pI_e, ↓pL_e, ↓pO_e, ↓pR_e, ↓p1_I, ↓p1_O, z_gl, z_st1, z_st2, z_nl_I, z_nl_O, z_nl_J, z_nl_L, if_true, if_false, ite_true, ite_false, true_and, and_true, List.mem_cons, List.not_mem_nil, or_false, false_or, or_self, List.length_cons, List.length_nil, InR_t, InL_t, z_ix_t, mI_s1, mI_s2, ↓brT, ↓brF, ↓brT', ↓brF', mL_sI, mR_sI, mK_sI, mS_sI, mI_sL, mL_s1, mL_s2, mR_sL, mK_sL, mS_sL, mI_sR, mL_sR, mR_s1, mR_s2, mK_sR, mS_sR, mA_s1, mA_s2, mL_sA, mR_sA, mK_sA, mS_sA, ix_n, ix_a, ix_m, ix_s, z_sw, z_stop, forall_const, true_implies, false_implies, imp_self, implies_true, not_true_eq_false, not_false_eq_true, ne_eq, eq_self, Option.some.injEq, reduceCtorEq, Nat.reduceAdd, Nat.reduceSub, Nat.reduceMul, Nat.reduceEqDiff, Nat.reduceLT, Nat.reduceLeDiff, Int.reduceAdd, Int.reduceMul, Int.reduceSub, Int.reduceNeg, Int.reduceToNat, Int.reduceLT, Int.reduceLE, Int.reduceEq, ↓reduceIte, List.reverse_cons, Option.toList, List.cons_append, List.nil_append, vI_inj, vL_inj, vO_inj, rI, rL, rO, rV, mI_sQ, mL_sQ, mK_sQ, mS_sQ, mQ_s1, mQ_s2, iL_and, iL_or, iL_xor, iL_shl, iL_ushr, iR_and, iR_or, iR_xor, iR_shl, iR_shr, iR_ushr, iR_cmp, yc0, tlX1_init, tkX1_init, o_aload, o_dup, o_ic, o_oinit, o_putR, o_vret, mK_n2, kk3]
  try simp +contextual (disch := omega) only [impF, impT, and_true, true_and, implies_true, not_false_eq_true, not_true_eq_false]
  exact fin
