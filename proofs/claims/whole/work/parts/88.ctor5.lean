/-! constructors: VersionResolver, the reference -/
def VrE (h : zH) : Prop := (gK h 0).1 = 7 ∧ gR h 0 0 = some 1 ∧ gR h 0 1 = some 2 ∧ gR h 0 2 = some 17 ∧ gR h 0 3 = some 18 ∧ gR h 0 4 = some 33 ∧ gR h 0 5 = some 85 ∧ OuE h 1 ∧ OuE h 17 ∧ HiE h 33 ∧ TxE h 85
theorem TxE.sm {h h' : zH} {b : Nat} (hs : ∀ a, b ≤ a → a ≤ b + 7 → Sa h h' a) (hE : TxE h b) : TxE h' b := by
  obtain ⟨b1, b2, b3, b4, b5, b6, b7, b8⟩ := hE
  obtain ⟨k0, i0, r0⟩ := hs b (by omega) (by omega)
  obtain ⟨k1, i1, r1⟩ := hs (b + 1) (by omega) (by omega)
  exact ⟨by rw [k0]; exact b1, by rw [k1]; exact b2, by rw [r0]; exact b3, by rw [r0]; exact b4, by rw [r0]; exact b5, by rw [i0]; exact b6, RgS.sm (fun a q1 q2 => hs a (by omega) (by omega)) b7, RgS.sm (fun a q1 q2 => hs a (by omega) (by omega)) b8⟩
theorem Sa.r0 {h : zH} {k a : Nat} {o : Option Nat} (ha : 0 < a) : Sa h (sR h 0 k o) a := Sa.r (by omega)
set_option maxRecDepth 4000 in
set_option maxHeartbeats 4000000 in
theorem sp_VrInit (l : Launch) (G : zG) (h : zH) (k0 : (gK h 0).1 = 7) (hq : gS h = 1) (lv : Nat) (hlv : 4 ≤ lv) : z_Sp l G mtX7_init lv 92 1397 [vR 0] (h) (fun r h' => r = none ∧ gS h' = 93 ∧ VrE h') := by
  refine x_enter [vR 0] (by decide +kernel) (by omega) rfl (Nat.le_of_ble_eq_true rfl) ?_
  generalize hQ : (fun (r : Option zV) (h' : zH) => r = none ∧ gS h' = 93 ∧ VrE h') = QQ
  refine z_run1 tsX7_init [] 20 ?_
  simp (maxSteps := 1000000) -implicitDefEqProofs +contextual (disch := omega) only [z_wp_t, z_wp_u, ↓pI_e, ↓pL_e, ↓pO_e, ↓pR_e, ↓p1_I, ↓p1_O, z_gl, z_st1, z_st2, z_nl_I, z_nl_O, z_nl_J, z_nl_L, if_true, if_false, ite_true, ite_false, true_and, and_true, List.mem_cons, List.not_mem_nil, or_false, false_or, or_self, List.length_cons, List.length_nil, InR_t, InL_t, z_ix_t, mI_s1, mI_s2, ↓brT, ↓brF, ↓brT', ↓brF', mL_sI, mR_sI, mK_sI, mS_sI, mI_sL, mL_s1, mL_s2, mR_sL, mK_sL, mS_sL, mI_sR, mL_sR, mR_s1, mR_s2, mK_sR, mS_sR, mA_s1, mA_s2, mL_sA, mR_sA, mK_sA, mS_sA, ix_n, ix_a, ix_m, ix_s, z_sw, z_stop, forall_const, true_implies, false_implies, imp_self, implies_true, not_true_eq_false, not_false_eq_true, ne_eq, eq_self, Option.some.injEq, reduceCtorEq, Nat.reduceAdd, Nat.reduceSub, Nat.reduceMul, Nat.reduceEqDiff, Nat.reduceLT, Nat.reduceLeDiff, Int.reduceAdd, Int.reduceMul, Int.reduceSub, Int.reduceNeg, Int.reduceToNat, Int.reduceLT, Int.reduceLE, Int.reduceEq, ↓reduceIte, List.reverse_cons, Option.toList, List.cons_append, List.nil_append, vI_inj, vL_inj, vO_inj, rI, rL, rO, rV, mI_sQ, mL_sQ, mK_sQ, mS_sQ, mQ_s1, mQ_s2, iL_and, iL_or, iL_xor, iL_shl, iL_ushr, iR_and, iR_or, iR_xor, iR_shl, iR_shr, iR_ushr, iR_cmp, yc0, tlX7_init, tkX7_init, o_aload, o_dup, o_getR, o_oinit, o_putR, o_vret]
  try simp +contextual (disch := omega) only [impF, impT, and_true, true_and, implies_true, not_false_eq_true, not_true_eq_false]
  refine x_new 1 (by decide +kernel) (by decide) lw_X7_7 nw_X1 in_X1 (by omega) (by decide) ?_
  rw [hq, show z_nf 1 = 15 from rfl]
  have s1 : ∀ a, a < 1 → Sa h (nC h (1, 0)) a := fun a ha => Sa.n (by omega)
  have ks : (gK (nC h (1, 0)) 1).1 = 1 := by have e := mK_n1 h (1, 0); rw [hq] at e; rw [e]
  have is : ∀ k, gI (nC h (1, 0)) 1 k = 0 := fun k => by rw [show (1 : Nat) = gS h from hq.symm, mI_nC, if_pos rfl]
  have g1 : gS (nC h (1, 0)) = 1 + 1 := by rw [mS_nC, hq]
  generalize nC h (1, 0) = h1 at *
  refine z_run1 tsX7_init [] 20 ?_
  simp (maxSteps := 1000000) -implicitDefEqProofs +contextual (disch := omega) only [z_wp_t, z_wp_u, ↓pI_e, ↓pL_e, ↓pO_e, ↓pR_e, ↓p1_I, ↓p1_O, z_gl, z_st1, z_st2, z_nl_I, z_nl_O, z_nl_J, z_nl_L, if_true, if_false, ite_true, ite_false, true_and, and_true, List.mem_cons, List.not_mem_nil, or_false, false_or, or_self, List.length_cons, List.length_nil, InR_t, InL_t, z_ix_t, mI_s1, mI_s2, ↓brT, ↓brF, ↓brT', ↓brF', mL_sI, mR_sI, mK_sI, mS_sI, mI_sL, mL_s1, mL_s2, mR_sL, mK_sL, mS_sL, mI_sR, mL_sR, mR_s1, mR_s2, mK_sR, mS_sR, mA_s1, mA_s2, mL_sA, mR_sA, mK_sA, mS_sA, ix_n, ix_a, ix_m, ix_s, z_sw, z_stop, forall_const, true_implies, false_implies, imp_self, implies_true, not_true_eq_false, not_false_eq_true, ne_eq, eq_self, Option.some.injEq, reduceCtorEq, Nat.reduceAdd, Nat.reduceSub, Nat.reduceMul, Nat.reduceEqDiff, Nat.reduceLT, Nat.reduceLeDiff, Int.reduceAdd, Int.reduceMul, Int.reduceSub, Int.reduceNeg, Int.reduceToNat, Int.reduceLT, Int.reduceLE, Int.reduceEq, ↓reduceIte, List.reverse_cons, Option.toList, List.cons_append, List.nil_append, vI_inj, vL_inj, vO_inj, rI, rL, rO, rV, mI_sQ, mL_sQ, mK_sQ, mS_sQ, mQ_s1, mQ_s2, iL_and, iL_or, iL_xor, iL_shl, iL_ushr, iR_and, iR_or, iR_xor, iR_shl, iR_shr, iR_ushr, iR_cmp, yc0, tlX7_init, tkX7_init, o_aload, o_dup, o_getR, o_oinit, o_putR, o_vret]
  try simp +contextual (disch := omega) only [impF, impT, and_true, true_and, implies_true, not_false_eq_true, not_true_eq_false]
  refine x_callI (by decide +kernel) cv_X7_9 (sp_OcInit l G h1 1 ks g1 is 3 (by omega)) (by omega) rfl (by omega) (by omega) rfl (Nat.le_of_ble_eq_true rfl) ?_
  rintro r h2 ⟨rfl, g2, s2, e2⟩
  have k2 : (gK h2 0).1 = 7 := by rw [((s1 0 (by omega)).tr (s2 0 (by omega))).1]; exact k0
  clear s1 s2 is
  refine z_run1 tsX7_init [] 20 ?_
  simp (maxSteps := 1000000) -implicitDefEqProofs +contextual (disch := omega) only [z_wp_t, z_wp_u, ↓pI_e, ↓pL_e, ↓pO_e, ↓pR_e, ↓p1_I, ↓p1_O, z_gl, z_st1, z_st2, z_nl_I, z_nl_O, z_nl_J, z_nl_L, if_true, if_false, ite_true, ite_false, true_and, and_true, List.mem_cons, List.not_mem_nil, or_false, false_or, or_self, List.length_cons, List.length_nil, InR_t, InL_t, z_ix_t, mI_s1, mI_s2, ↓brT, ↓brF, ↓brT', ↓brF', mL_sI, mR_sI, mK_sI, mS_sI, mI_sL, mL_s1, mL_s2, mR_sL, mK_sL, mS_sL, mI_sR, mL_sR, mR_s1, mR_s2, mK_sR, mS_sR, mA_s1, mA_s2, mL_sA, mR_sA, mK_sA, mS_sA, ix_n, ix_a, ix_m, ix_s, z_sw, z_stop, forall_const, true_implies, false_implies, imp_self, implies_true, not_true_eq_false, not_false_eq_true, ne_eq, eq_self, Option.some.injEq, reduceCtorEq, Nat.reduceAdd, Nat.reduceSub, Nat.reduceMul, Nat.reduceEqDiff, Nat.reduceLT, Nat.reduceLeDiff, Int.reduceAdd, Int.reduceMul, Int.reduceSub, Int.reduceNeg, Int.reduceToNat, Int.reduceLT, Int.reduceLE, Int.reduceEq, ↓reduceIte, List.reverse_cons, Option.toList, List.cons_append, List.nil_append, vI_inj, vL_inj, vO_inj, rI, rL, rO, rV, mI_sQ, mL_sQ, mK_sQ, mS_sQ, mQ_s1, mQ_s2, iL_and, iL_or, iL_xor, iL_shl, iL_ushr, iR_and, iR_or, iR_xor, iR_shl, iR_shr, iR_ushr, iR_cmp, yc0, tlX7_init, tkX7_init, o_aload, o_dup, o_getR, o_oinit, o_putR, o_vret, k2]
  try simp +contextual (disch := omega) only [impF, impT, and_true, true_and, implies_true, not_false_eq_true, not_true_eq_false]
  have e3 : OuE (sR h2 0 0 (some 1)) 1 := OuE.sm (fun a q1 q2 => Sa.r0 (by omega)) e2
  have k3 : (gK (sR h2 0 0 (some 1)) 0).1 = 7 := by rw [mK_sR]; exact k2
  have g3 : gS (sR h2 0 0 (some 1)) = 17 := by rw [mS_sR, g2]
  have r30 : gR (sR h2 0 0 (some 1)) 0 0 = some 1 := mR_s1 _ _ _ _
  clear e2
  generalize sR h2 0 0 (some 1) = h3 at *
  refine x_new 1 (by decide +kernel) (by decide) lw_X7_7 nw_X1 in_X1 (by omega) (by decide) ?_
  rw [g3, show z_nf 1 = 15 from rfl]
  have s4 : ∀ a, a < 17 → Sa h3 (nC h3 (1, 0)) a := fun a ha => Sa.n (by omega)
  have ks4 : (gK (nC h3 (1, 0)) 17).1 = 1 := by rw [show (17 : Nat) = gS h3 from g3.symm, mK_n1]
  have is4 : ∀ k, gI (nC h3 (1, 0)) 17 k = 0 := fun k => by rw [show (17 : Nat) = gS h3 from g3.symm, mI_nC, if_pos rfl]
  have g4 : gS (nC h3 (1, 0)) = 17 + 1 := by rw [mS_nC, g3]
  generalize nC h3 (1, 0) = h4 at *
  refine z_run1 tsX7_init [] 20 ?_
  simp (maxSteps := 1000000) -implicitDefEqProofs +contextual (disch := omega) only [z_wp_t, z_wp_u, ↓pI_e, ↓pL_e, ↓pO_e, ↓pR_e, ↓p1_I, ↓p1_O, z_gl, z_st1, z_st2, z_nl_I, z_nl_O, z_nl_J, z_nl_L, if_true, if_false, ite_true, ite_false, true_and, and_true, List.mem_cons, List.not_mem_nil, or_false, false_or, or_self, List.length_cons, List.length_nil, InR_t, InL_t, z_ix_t, mI_s1, mI_s2, ↓brT, ↓brF, ↓brT', ↓brF', mL_sI, mR_sI, mK_sI, mS_sI, mI_sL, mL_s1, mL_s2, mR_sL, mK_sL, mS_sL, mI_sR, mL_sR, mR_s1, mR_s2, mK_sR, mS_sR, mA_s1, mA_s2, mL_sA, mR_sA, mK_sA, mS_sA, ix_n, ix_a, ix_m, ix_s, z_sw, z_stop, forall_const, true_implies, false_implies, imp_self, implies_true, not_true_eq_false, not_false_eq_true, ne_eq, eq_self, Option.some.injEq, reduceCtorEq, Nat.reduceAdd, Nat.reduceSub, Nat.reduceMul, Nat.reduceEqDiff, Nat.reduceLT, Nat.reduceLeDiff, Int.reduceAdd, Int.reduceMul, Int.reduceSub, Int.reduceNeg, Int.reduceToNat, Int.reduceLT, Int.reduceLE, Int.reduceEq, ↓reduceIte, List.reverse_cons, Option.toList, List.cons_append, List.nil_append, vI_inj, vL_inj, vO_inj, rI, rL, rO, rV, mI_sQ, mL_sQ, mK_sQ, mS_sQ, mQ_s1, mQ_s2, iL_and, iL_or, iL_xor, iL_shl, iL_ushr, iR_and, iR_or, iR_xor, iR_shl, iR_shr, iR_ushr, iR_cmp, yc0, tlX7_init, tkX7_init, o_aload, o_dup, o_getR, o_oinit, o_putR, o_vret]
  try simp +contextual (disch := omega) only [impF, impT, and_true, true_and, implies_true, not_false_eq_true, not_true_eq_false]
  refine x_callI (by decide +kernel) cv_X7_9 (sp_OcInit l G h4 17 ks4 g4 is4 3 (by omega)) (by omega) rfl (by omega) (by omega) rfl (Nat.le_of_ble_eq_true rfl) ?_
  rintro r h5 ⟨rfl, g5, s5, e5⟩
  have s35 : ∀ a, a < 17 → Sa h3 h5 a := fun a ha => (s4 a ha).tr (s5 a ha)
  have k5 : (gK h5 0).1 = 7 := by rw [(s35 0 (by omega)).1]; exact k3
  have r50 : gR h5 0 0 = some 1 := by rw [(s35 0 (by omega)).2.2]; exact r30
  have e51 : OuE h5 1 := OuE.sm (fun a q1 q2 => s35 a (by omega)) e3
  have c1 : (gK h5 1).1 = 1 := e51.1.1
  have c17 : (gK h5 17).1 = 1 := e5.1.1
  have r1 : gR h5 1 0 = some 2 := e51.1.2.2.2.2.2.1
  have r17 : gR h5 17 0 = some 18 := e5.1.2.2.2.2.2.1
  clear s4 s5 s35 is4 e3
  refine z_run1 tsX7_init [] 40 ?_
  simp (maxSteps := 1000000) -implicitDefEqProofs +contextual (disch := omega) only [z_wp_t, z_wp_u, ↓pI_e, ↓pL_e, ↓pO_e, ↓pR_e, ↓p1_I, ↓p1_O, z_gl, z_st1, z_st2, z_nl_I, z_nl_O, z_nl_J, z_nl_L, if_true, if_false, ite_true, ite_false, true_and, and_true, List.mem_cons, List.not_mem_nil, or_false, false_or, or_self, List.length_cons, List.length_nil, InR_t, InL_t, z_ix_t, mI_s1, mI_s2, ↓brT, ↓brF, ↓brT', ↓brF', mL_sI, mR_sI, mK_sI, mS_sI, mI_sL, mL_s1, mL_s2, mR_sL, mK_sL, mS_sL, mI_sR, mL_sR, mR_s1, mR_s2, mK_sR, mS_sR, mA_s1, mA_s2, mL_sA, mR_sA, mK_sA, mS_sA, ix_n, ix_a, ix_m, ix_s, z_sw, z_stop, forall_const, true_implies, false_implies, imp_self, implies_true, not_true_eq_false, not_false_eq_true, ne_eq, eq_self, Option.some.injEq, reduceCtorEq, Nat.reduceAdd, Nat.reduceSub, Nat.reduceMul, Nat.reduceEqDiff, Nat.reduceLT, Nat.reduceLeDiff, Int.reduceAdd, Int.reduceMul, Int.reduceSub, Int.reduceNeg, Int.reduceToNat, Int.reduceLT, Int.reduceLE, Int.reduceEq, ↓reduceIte, List.reverse_cons, Option.toList, List.cons_append, List.nil_append, vI_inj, vL_inj, vO_inj, rI, rL, rO, rV, mI_sQ, mL_sQ, mK_sQ, mS_sQ, mQ_s1, mQ_s2, iL_and, iL_or, iL_xor, iL_shl, iL_ushr, iR_and, iR_or, iR_xor, iR_shl, iR_shr, iR_ushr, iR_cmp, yc0, tlX7_init, tkX7_init, o_aload, o_dup, o_getR, o_oinit, o_putR, o_vret, k5, r50, c1, c17, r1, r17]
  try simp +contextual (disch := omega) only [impF, impT, and_true, true_and, implies_true, not_false_eq_true, not_true_eq_false]
  have s6 : ∀ a, 0 < a → Sa h5 (sR (sR (sR h5 0 2 (some 17)) 0 1 (some 2)) 0 3 (some 18)) a := fun a ha => ((Sa.r0 (h := h5) (k := 2) (o := some 17) ha).tr (Sa.r0 (h := sR h5 0 2 (some 17)) (k := 1) (o := some 2) ha)).tr (Sa.r0 (h := sR (sR h5 0 2 (some 17)) 0 1 (some 2)) (k := 3) (o := some 18) ha)
  have k6 : (gK (sR (sR (sR h5 0 2 (some 17)) 0 1 (some 2)) 0 3 (some 18)) 0).1 = 7 := by rw [mK_sR, mK_sR, mK_sR]; exact k5
  have g6 : gS (sR (sR (sR h5 0 2 (some 17)) 0 1 (some 2)) 0 3 (some 18)) = 33 := by rw [mS_sR, mS_sR, mS_sR, g5]
  have t0 : gR (sR (sR (sR h5 0 2 (some 17)) 0 1 (some 2)) 0 3 (some 18)) 0 0 = some 1 := by rw [mR_s2 _ _ (Or.inr (by omega)), mR_s2 _ _ (Or.inr (by omega)), mR_s2 _ _ (Or.inr (by omega))]; exact r50
  have t1 : gR (sR (sR (sR h5 0 2 (some 17)) 0 1 (some 2)) 0 3 (some 18)) 0 1 = some 2 := by rw [mR_s2 _ _ (Or.inr (by omega)), mR_s1]
  have t2 : gR (sR (sR (sR h5 0 2 (some 17)) 0 1 (some 2)) 0 3 (some 18)) 0 2 = some 17 := by rw [mR_s2 _ _ (Or.inr (by omega)), mR_s2 _ _ (Or.inr (by omega)), mR_s1]
  have t3 : gR (sR (sR (sR h5 0 2 (some 17)) 0 1 (some 2)) 0 3 (some 18)) 0 3 = some 18 := mR_s1 _ _ _ _
  generalize sR (sR (sR h5 0 2 (some 17)) 0 1 (some 2)) 0 3 (some 18) = h6 at *
  have e61 : OuE h6 1 := OuE.sm (fun a q1 q2 => s6 a (by omega)) e51
  have e62 : OuE h6 17 := OuE.sm (fun a q1 q2 => s6 a (by omega)) e5
  clear s6 e51 e5
  refine x_new 0 (by decide +kernel) (by decide) lw_X7_29 nw_X0 in_X0 (by omega) (by decide) ?_
  rw [g6, show z_nf 0 = 3 from rfl]
  have s7 : ∀ a, a < 33 → Sa h6 (nC h6 (0, 0)) a := fun a ha => Sa.n (by omega)
  have ks7 : (gK (nC h6 (0, 0)) 33).1 = 0 := by rw [show (33 : Nat) = gS h6 from g6.symm, mK_n1]
  have g7 : gS (nC h6 (0, 0)) = 33 + 1 := by rw [mS_nC, g6]
  generalize nC h6 (0, 0) = h7 at *
  refine z_run1 tsX7_init [] 20 ?_
  simp (maxSteps := 1000000) -implicitDefEqProofs +contextual (disch := omega) only [z_wp_t, z_wp_u, ↓pI_e, ↓pL_e, ↓pO_e, ↓pR_e, ↓p1_I, ↓p1_O, z_gl, z_st1, z_st2, z_nl_I, z_nl_O, z_nl_J, z_nl_L, if_true, if_false, ite_true, ite_false, true_and, and_true, List.mem_cons, List.not_mem_nil, or_false, false_or, or_self, List.length_cons, List.length_nil, InR_t, InL_t, z_ix_t, mI_s1, mI_s2, ↓brT, ↓brF, ↓brT', ↓brF', mL_sI, mR_sI, mK_sI, mS_sI, mI_sL, mL_s1, mL_s2, mR_sL, mK_sL, mS_sL, mI_sR, mL_sR, mR_s1, mR_s2, mK_sR, mS_sR, mA_s1, mA_s2, mL_sA, mR_sA, mK_sA, mS_sA, ix_n, ix_a, ix_m, ix_s, z_sw, z_stop, forall_const, true_implies, false_implies, imp_self, implies_true, not_true_eq_false, not_false_eq_true, ne_eq, eq_self, Option.some.injEq, reduceCtorEq, Nat.reduceAdd, Nat.reduceSub, Nat.reduceMul, Nat.reduceEqDiff, Nat.reduceLT, Nat.reduceLeDiff, Int.reduceAdd, Int.reduceMul, Int.reduceSub, Int.reduceNeg, Int.reduceToNat, Int.reduceLT, Int.reduceLE, Int.reduceEq, ↓reduceIte, List.reverse_cons, Option.toList, List.cons_append, List.nil_append, vI_inj, vL_inj, vO_inj, rI, rL, rO, rV, mI_sQ, mL_sQ, mK_sQ, mS_sQ, mQ_s1, mQ_s2, iL_and, iL_or, iL_xor, iL_shl, iL_ushr, iR_and, iR_or, iR_xor, iR_shl, iR_shr, iR_ushr, iR_cmp, yc0, tlX7_init, tkX7_init, o_aload, o_dup, o_getR, o_oinit, o_putR, o_vret]
  try simp +contextual (disch := omega) only [impF, impT, and_true, true_and, implies_true, not_false_eq_true, not_true_eq_false]
  refine x_callI (by decide +kernel) cv_X7_31 (sp_HiInit l G h7 33 ks7 g7 3 (by omega)) (by omega) rfl (by omega) (by omega) rfl (Nat.le_of_ble_eq_true rfl) ?_
  rintro r h8 ⟨rfl, g8, s8, e8⟩
  have s68 : ∀ a, a < 33 → Sa h6 h8 a := fun a ha => (s7 a ha).tr (s8 a ha)
  have k8 : (gK h8 0).1 = 7 := by rw [(s68 0 (by omega)).1]; exact k6
  have u0 : gR h8 0 = gR h6 0 := (s68 0 (by omega)).2.2
  have e81 : OuE h8 1 := OuE.sm (fun a q1 q2 => s68 a (by omega)) e61
  have e82 : OuE h8 17 := OuE.sm (fun a q1 q2 => s68 a (by omega)) e62
  clear s7 s8 s68 e61 e62
  refine z_run1 tsX7_init [] 20 ?_
  simp (maxSteps := 1000000) -implicitDefEqProofs +contextual (disch := omega) only [z_wp_t, z_wp_u, ↓pI_e, ↓pL_e, ↓pO_e, ↓pR_e, ↓p1_I, ↓p1_O, z_gl, z_st1, z_st2, z_nl_I, z_nl_O, z_nl_J, z_nl_L, if_true, if_false, ite_true, ite_false, true_and, and_true, List.mem_cons, List.not_mem_nil, or_false, false_or, or_self, List.length_cons, List.length_nil, InR_t, InL_t, z_ix_t, mI_s1, mI_s2, ↓brT, ↓brF, ↓brT', ↓brF', mL_sI, mR_sI, mK_sI, mS_sI, mI_sL, mL_s1, mL_s2, mR_sL, mK_sL, mS_sL, mI_sR, mL_sR, mR_s1, mR_s2, mK_sR, mS_sR, mA_s1, mA_s2, mL_sA, mR_sA, mK_sA, mS_sA, ix_n, ix_a, ix_m, ix_s, z_sw, z_stop, forall_const, true_implies, false_implies, imp_self, implies_true, not_true_eq_false, not_false_eq_true, ne_eq, eq_self, Option.some.injEq, reduceCtorEq, Nat.reduceAdd, Nat.reduceSub, Nat.reduceMul, Nat.reduceEqDiff, Nat.reduceLT, Nat.reduceLeDiff, Int.reduceAdd, Int.reduceMul, Int.reduceSub, Int.reduceNeg, Int.reduceToNat, Int.reduceLT, Int.reduceLE, Int.reduceEq, ↓reduceIte, List.reverse_cons, Option.toList, List.cons_append, List.nil_append, vI_inj, vL_inj, vO_inj, rI, rL, rO, rV, mI_sQ, mL_sQ, mK_sQ, mS_sQ, mQ_s1, mQ_s2, iL_and, iL_or, iL_xor, iL_shl, iL_ushr, iR_and, iR_or, iR_xor, iR_shl, iR_shr, iR_ushr, iR_cmp, yc0, tlX7_init, tkX7_init, o_aload, o_dup, o_getR, o_oinit, o_putR, o_vret, k8]
  try simp +contextual (disch := omega) only [impF, impT, and_true, true_and, implies_true, not_false_eq_true, not_true_eq_false]
  have s9 : ∀ a, 0 < a → Sa h8 (sR h8 0 4 (some 33)) a := fun a ha => Sa.r0 ha
  have k9 : (gK (sR h8 0 4 (some 33)) 0).1 = 7 := by rw [mK_sR]; exact k8
  have g9 : gS (sR h8 0 4 (some 33)) = 85 := by rw [mS_sR, g8]
  have v0 : gR (sR h8 0 4 (some 33)) 0 0 = some 1 := by rw [mR_s2 _ _ (Or.inr (by omega)), u0]; exact t0
  have v1 : gR (sR h8 0 4 (some 33)) 0 1 = some 2 := by rw [mR_s2 _ _ (Or.inr (by omega)), u0]; exact t1
  have v2 : gR (sR h8 0 4 (some 33)) 0 2 = some 17 := by rw [mR_s2 _ _ (Or.inr (by omega)), u0]; exact t2
  have v3 : gR (sR h8 0 4 (some 33)) 0 3 = some 18 := by rw [mR_s2 _ _ (Or.inr (by omega)), u0]; exact t3
  have v4 : gR (sR h8 0 4 (some 33)) 0 4 = some 33 := mR_s1 _ _ _ _
  generalize sR h8 0 4 (some 33) = h9 at *
  have e91 : OuE h9 1 := OuE.sm (fun a q1 q2 => s9 a (by omega)) e81
  have e92 : OuE h9 17 := OuE.sm (fun a q1 q2 => s9 a (by omega)) e82
  have e93 : HiE h9 33 := HiE.sm (fun a q1 q2 => s9 a (by omega)) e8
  clear s9 e81 e82 e8
  refine x_new 5 (by decide +kernel) (by decide) lw_X7_36 nw_X5 in_X5 (by omega) (by decide) ?_
  rw [g9, show z_nf 5 = 14 from rfl]
  have s10 : ∀ a, a < 85 → Sa h9 (nC h9 (5, 0)) a := fun a ha => Sa.n (by omega)
  have ks10 : (gK (nC h9 (5, 0)) 85).1 = 5 := by rw [show (85 : Nat) = gS h9 from g9.symm, mK_n1]
  have g10 : gS (nC h9 (5, 0)) = 85 + 1 := by rw [mS_nC, g9]
  generalize nC h9 (5, 0) = h10 at *
  refine z_run1 tsX7_init [] 20 ?_
  simp (maxSteps := 1000000) -implicitDefEqProofs +contextual (disch := omega) only [z_wp_t, z_wp_u, ↓pI_e, ↓pL_e, ↓pO_e, ↓pR_e, ↓p1_I, ↓p1_O, z_gl, z_st1, z_st2, z_nl_I, z_nl_O, z_nl_J, z_nl_L, if_true, if_false, ite_true, ite_false, true_and, and_true, List.mem_cons, List.not_mem_nil, or_false, false_or, or_self, List.length_cons, List.length_nil, InR_t, InL_t, z_ix_t, mI_s1, mI_s2, ↓brT, ↓brF, ↓brT', ↓brF', mL_sI, mR_sI, mK_sI, mS_sI, mI_sL, mL_s1, mL_s2, mR_sL, mK_sL, mS_sL, mI_sR, mL_sR, mR_s1, mR_s2, mK_sR, mS_sR, mA_s1, mA_s2, mL_sA, mR_sA, mK_sA, mS_sA, ix_n, ix_a, ix_m, ix_s, z_sw, z_stop, forall_const, true_implies, false_implies, imp_self, implies_true, not_true_eq_false, not_false_eq_true, ne_eq, eq_self, Option.some.injEq, reduceCtorEq, Nat.reduceAdd, Nat.reduceSub, Nat.reduceMul, Nat.reduceEqDiff, Nat.reduceLT, Nat.reduceLeDiff, Int.reduceAdd, Int.reduceMul, Int.reduceSub, Int.reduceNeg, Int.reduceToNat, Int.reduceLT, Int.reduceLE, Int.reduceEq, ↓reduceIte, List.reverse_cons, Option.toList, List.cons_append, List.nil_append, vI_inj, vL_inj, vO_inj, rI, rL, rO, rV, mI_sQ, mL_sQ, mK_sQ, mS_sQ, mQ_s1, mQ_s2, iL_and, iL_or, iL_xor, iL_shl, iL_ushr, iR_and, iR_or, iR_xor, iR_shl, iR_shr, iR_ushr, iR_cmp, yc0, tlX7_init, tkX7_init, o_aload, o_dup, o_getR, o_oinit, o_putR, o_vret]
  try simp +contextual (disch := omega) only [impF, impT, and_true, true_and, implies_true, not_false_eq_true, not_true_eq_false]
  refine x_callI (by decide +kernel) cv_X7_38 (sp_TxInit l G h10 85 ks10 g10 3 (by omega)) (by omega) rfl (by omega) (by omega) rfl (Nat.le_of_ble_eq_true rfl) ?_
  rintro r h11 ⟨rfl, g11, s11, e11⟩
  have s911 : ∀ a, a < 85 → Sa h9 h11 a := fun a ha => (s10 a ha).tr (s11 a ha)
  have k11 : (gK h11 0).1 = 7 := by rw [(s911 0 (by omega)).1]; exact k9
  have w0 : gR h11 0 = gR h9 0 := (s911 0 (by omega)).2.2
  have f1 : OuE h11 1 := OuE.sm (fun a q1 q2 => s911 a (by omega)) e91
  have f2 : OuE h11 17 := OuE.sm (fun a q1 q2 => s911 a (by omega)) e92
  have f3 : HiE h11 33 := HiE.sm (fun a q1 q2 => s911 a (by omega)) e93
  have s12 : ∀ a, 0 < a → Sa h11 (sR h11 0 5 (some 85)) a := fun a ha => Sa.r0 ha
  have hfin : QQ none (sR h11 0 5 (some 85)) := by
    rw [← hQ]
    have x1 : gS (sR h11 0 5 (some 85)) = 93 := by rw [mS_sR, g11]
    have x2 : (gK (sR h11 0 5 (some 85)) 0).1 = 7 := by rw [mK_sR]; exact k11
    have x3 : gR (sR h11 0 5 (some 85)) 0 0 = some 1 := by rw [mR_s2 _ _ (Or.inr (by omega)), w0]; exact v0
    have x4 : gR (sR h11 0 5 (some 85)) 0 1 = some 2 := by rw [mR_s2 _ _ (Or.inr (by omega)), w0]; exact v1
    have x5 : gR (sR h11 0 5 (some 85)) 0 2 = some 17 := by rw [mR_s2 _ _ (Or.inr (by omega)), w0]; exact v2
    have x6 : gR (sR h11 0 5 (some 85)) 0 3 = some 18 := by rw [mR_s2 _ _ (Or.inr (by omega)), w0]; exact v3
    have x7 : gR (sR h11 0 5 (some 85)) 0 4 = some 33 := by rw [mR_s2 _ _ (Or.inr (by omega)), w0]; exact v4
    have x8 : gR (sR h11 0 5 (some 85)) 0 5 = some 85 := mR_s1 _ _ _ _
    exact ⟨rfl, x1, x2, x3, x4, x5, x6, x7, x8, OuE.sm (fun a q1 q2 => s12 a (by omega)) f1, OuE.sm (fun a q1 q2 => s12 a (by omega)) f2, HiE.sm (fun a q1 q2 => s12 a (by omega)) f3, TxE.sm (fun a q1 q2 => s12 a (by omega)) e11⟩
  clear hQ s10 s11 s911 s12 f1 f2 f3 e11 e91 e92 e93
  refine z_run1 tsX7_init [] 20 ?_
  simp (maxSteps := 1000000) -implicitDefEqProofs +contextual (disch := omega) only [z_wp_t, z_wp_u, ↓pI_e, ↓pL_e, ↓pO_e, ↓pR_e, ↓p1_I, ↓p1_O, z_gl, z_st1, z_st2, z_nl_I, z_nl_O, z_nl_J, z_nl_L, if_true, if_false, ite_true, ite_false, true_and, and_true, List.mem_cons, List.not_mem_nil, or_false, false_or, or_self, List.length_cons, List.length_nil, InR_t, InL_t, z_ix_t, mI_s1, mI_s2, ↓brT, ↓brF, ↓brT', ↓brF', mL_sI, mR_sI, mK_sI, mS_sI, mI_sL, mL_s1, mL_s2, mR_sL, mK_sL, mS_sL, mI_sR, mL_sR, mR_s1, mR_s2, mK_sR, mS_sR, mA_s1, mA_s2, mL_sA, mR_sA, mK_sA, mS_sA, ix_n, ix_a, ix_m, ix_s, z_sw, z_stop, forall_const, true_implies, false_implies, imp_self, implies_true, not_true_eq_false, not_false_eq_true, ne_eq, eq_self, Option.some.injEq, reduceCtorEq, Nat.reduceAdd, Nat.reduceSub, Nat.reduceMul, Nat.reduceEqDiff, Nat.reduceLT, Nat.reduceLeDiff, Int.reduceAdd, Int.reduceMul, Int.reduceSub, Int.reduceNeg, Int.reduceToNat, Int.reduceLT, Int.reduceLE, Int.reduceEq, ↓reduceIte, List.reverse_cons, Option.toList, List.cons_append, List.nil_append, vI_inj, vL_inj, vO_inj, rI, rL, rO, rV, mI_sQ, mL_sQ, mK_sQ, mS_sQ, mQ_s1, mQ_s2, iL_and, iL_or, iL_xor, iL_shl, iL_ushr, iR_and, iR_or, iR_xor, iR_shl, iR_shr, iR_ushr, iR_cmp, yc0, tlX7_init, tkX7_init, o_aload, o_dup, o_getR, o_oinit, o_putR, o_vret, k11]
  try simp +contextual (disch := omega) only [impF, impT, and_true, true_and, implies_true, not_false_eq_true, not_true_eq_false]
  exact hfin
