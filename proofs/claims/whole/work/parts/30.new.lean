/-! new ranges and rules -/
theorem mK_n1 (h : zH) (kd : Nat × Nat) : gK (nC h kd) (gS h) = kd := by simp [mK_nC]
theorem mK_n2 (h : zH) (kd : Nat × Nat) {b : Nat} (hn : b ≠ gS h) : gK (nC h kd) b = gK h b := by simp [mK_nC, hn]
theorem mI_n2 (h : zH) (kd : Nat × Nat) {b : Nat} (hn : b ≠ gS h) : gI (nC h kd) b = gI h b := by funext j; simp [mI_nC, hn]
theorem mL_n2 (h : zH) (kd : Nat × Nat) {b : Nat} (hn : b ≠ gS h) : gL (nC h kd) b = gL h b := by funext j; simp [mL_nC, hn]
theorem mR_n2 (h : zH) (kd : Nat × Nat) {b : Nat} (hn : b ≠ gS h) : gR (nC h kd) b = gR h b := by funext j; simp [mR_nC, hn]
/-- old cells stay, new ones may have come -/
def Fx (h h' : zH) : Prop := gS h ≤ gS h' ∧ ∀ a, a < gS h → gK h' a = gK h a ∧ gI h' a = gI h a ∧ gL h' a = gL h a ∧ gR h' a = gR h a
theorem Fx.rf {h : zH} : Fx h h := ⟨Nat.le_refl _, fun _ _ => ⟨rfl, rfl, rfl, rfl⟩⟩
theorem Fx.tr {h h1 h2 : zH} (f : Fx h h1) (g : Fx h1 h2) : Fx h h2 := by
  refine ⟨Nat.le_trans f.1 g.1, fun a ha => ?_⟩
  obtain ⟨p1, p2, p3, p4⟩ := f.2 a ha
  obtain ⟨q1, q2, q3, q4⟩ := g.2 a (Nat.lt_of_lt_of_le ha f.1)
  exact ⟨q1.trans p1, q2.trans p2, q3.trans p3, q4.trans p4⟩
theorem Fx.nC (h : zH) (kd : Nat × Nat) : Fx h (nC h kd) := ⟨Nat.le_succ _, fun a ha => ⟨mK_n2 h kd (by omega), mI_n2 h kd (by omega), mL_n2 h kd (by omega), mR_n2 h kd (by omega)⟩⟩
theorem Fx.fr {S : Nat → Prop} {h h1 h2 : zH} (f : Fx h h1) (g : Fr S h1 h2) (hs : ∀ a, S a → gS h ≤ a) : Fx h h2 := by
  refine ⟨by rw [g.S]; exact f.1, fun a ha => ?_⟩
  obtain ⟨p1, p2, p3, p4⟩ := f.2 a ha
  have hn : ¬ S a := fun q => by have := hs a q; omega
  exact ⟨by rw [g.K]; exact p1, (g.I hn).trans p2, (g.L hn).trans p3, (g.R hn).trans p4⟩
set_option maxHeartbeats 4000000 in
theorem sp_RgInit (l : Launch) (G : zG) (h : zH) (q N : Nat) (k0 : (gK h q).1 = 3) (hq : q < gS h) (hN : N ≤ 20) (lv : Nat) (hlv : 2 ≤ lv) : z_Sp l G mtX3_init lv 2 40 [vR q, vI N] (h) (rV (sI (sR (nC (sR (nC h (9, N)) q 0 (some (gS h))) (9, N)) q 1 (some (gS h + 1))) q 2 0)) := by
  have hqn : q ≠ gS h := by omega
  have hqn2 : q ≠ gS h + 1 := by omega
  have hS1 : gS (sR (nC h (9, N)) q 0 (some (gS h))) = gS h + 1 := rfl
  refine x_enter [vR q, vI N, vJ] (by decide +kernel) (by omega) rfl (Nat.le_of_ble_eq_true rfl) ?_
  generalize hQ : rV (sI (sR (nC (sR (nC h (9, N)) q 0 (some (gS h))) (9, N)) q 1 (some (gS h + 1))) q 2 0) = QQ
  refine z_run1 tsX3_init [] 30 ?_
  simp (maxSteps := 1000000) -implicitDefEqProofs +contextual (disch := omega) only [z_wp_t, z_wp_u, ↓pI_e, ↓pL_e, ↓pO_e, ↓pR_e, ↓p1_I, ↓p1_O, z_gl, z_st1, z_st2, z_nl_I, z_nl_O, z_nl_J, z_nl_L, if_true, if_false, ite_true, ite_false, true_and, and_true, List.mem_cons, List.not_mem_nil, or_false, false_or, or_self, List.length_cons, List.length_nil, InR_t, InL_t, z_ix_t, mI_s1, mI_s2, ↓brT, ↓brF, ↓brT', ↓brF', mL_sI, mR_sI, mK_sI, mS_sI, mI_sL, mL_s1, mL_s2, mR_sL, mK_sL, mS_sL, mI_sR, mL_sR, mR_s1, mR_s2, mK_sR, mS_sR, mA_s1, mA_s2, mL_sA, mR_sA, mK_sA, mS_sA, ix_n, ix_a, ix_m, ix_s, z_sw, z_stop, forall_const, true_implies, false_implies, imp_self, implies_true, not_true_eq_false, not_false_eq_true, ne_eq, eq_self, Option.some.injEq, reduceCtorEq, Nat.reduceAdd, Nat.reduceSub, Nat.reduceMul, Nat.reduceEqDiff, Nat.reduceLT, Nat.reduceLeDiff, Int.reduceAdd, Int.reduceMul, Int.reduceSub, Int.reduceNeg, Int.reduceToNat, Int.reduceLT, Int.reduceLE, Int.reduceEq, ↓reduceIte, List.reverse_cons, Option.toList, List.cons_append, List.nil_append, vI_inj, vL_inj, vO_inj, rI, rL, rO, rV, mI_sQ, mL_sQ, mK_sQ, mS_sQ, mQ_s1, mQ_s2, tlX3_init, tkX3_init, o_aload, o_ic, o_iload, o_istore, o_oinit, o_putI, o_putR, o_vret]
  try simp +contextual (disch := omega) only [impF, impT, and_true, true_and, implies_true, not_false_eq_true, not_true_eq_false]
  refine x_max (by decide +kernel) cv_X3_7 (by unfold InR; omega) (by unfold InR; omega) (Nat.le_of_ble_eq_true rfl) ?_
  rw [if_neg (by omega)]
  refine z_run1 tsX3_init [] 30 ?_
  simp (maxSteps := 1000000) -implicitDefEqProofs +contextual (disch := omega) only [z_wp_t, z_wp_u, ↓pI_e, ↓pL_e, ↓pO_e, ↓pR_e, ↓p1_I, ↓p1_O, z_gl, z_st1, z_st2, z_nl_I, z_nl_O, z_nl_J, z_nl_L, if_true, if_false, ite_true, ite_false, true_and, and_true, List.mem_cons, List.not_mem_nil, or_false, false_or, or_self, List.length_cons, List.length_nil, InR_t, InL_t, z_ix_t, mI_s1, mI_s2, ↓brT, ↓brF, ↓brT', ↓brF', mL_sI, mR_sI, mK_sI, mS_sI, mI_sL, mL_s1, mL_s2, mR_sL, mK_sL, mS_sL, mI_sR, mL_sR, mR_s1, mR_s2, mK_sR, mS_sR, mA_s1, mA_s2, mL_sA, mR_sA, mK_sA, mS_sA, ix_n, ix_a, ix_m, ix_s, z_sw, z_stop, forall_const, true_implies, false_implies, imp_self, implies_true, not_true_eq_false, not_false_eq_true, ne_eq, eq_self, Option.some.injEq, reduceCtorEq, Nat.reduceAdd, Nat.reduceSub, Nat.reduceMul, Nat.reduceEqDiff, Nat.reduceLT, Nat.reduceLeDiff, Int.reduceAdd, Int.reduceMul, Int.reduceSub, Int.reduceNeg, Int.reduceToNat, Int.reduceLT, Int.reduceLE, Int.reduceEq, ↓reduceIte, List.reverse_cons, Option.toList, List.cons_append, List.nil_append, vI_inj, vL_inj, vO_inj, rI, rL, rO, rV, mI_sQ, mL_sQ, mK_sQ, mS_sQ, mQ_s1, mQ_s2, tlX3_init, tkX3_init, o_aload, o_ic, o_iload, o_istore, o_oinit, o_putI, o_putR, o_vret]
  try simp +contextual (disch := omega) only [impF, impT, and_true, true_and, implies_true, not_false_eq_true, not_true_eq_false]
  refine x_newai N (by decide +kernel) ar_int (by omega) (by omega) (by omega) ?_
  refine z_run1 tsX3_init [] 30 ?_
  simp (maxSteps := 1000000) -implicitDefEqProofs +contextual (disch := omega) only [z_wp_t, z_wp_u, ↓pI_e, ↓pL_e, ↓pO_e, ↓pR_e, ↓p1_I, ↓p1_O, z_gl, z_st1, z_st2, z_nl_I, z_nl_O, z_nl_J, z_nl_L, if_true, if_false, ite_true, ite_false, true_and, and_true, List.mem_cons, List.not_mem_nil, or_false, false_or, or_self, List.length_cons, List.length_nil, InR_t, InL_t, z_ix_t, mI_s1, mI_s2, ↓brT, ↓brF, ↓brT', ↓brF', mL_sI, mR_sI, mK_sI, mS_sI, mI_sL, mL_s1, mL_s2, mR_sL, mK_sL, mS_sL, mI_sR, mL_sR, mR_s1, mR_s2, mK_sR, mS_sR, mA_s1, mA_s2, mL_sA, mR_sA, mK_sA, mS_sA, ix_n, ix_a, ix_m, ix_s, z_sw, z_stop, forall_const, true_implies, false_implies, imp_self, implies_true, not_true_eq_false, not_false_eq_true, ne_eq, eq_self, Option.some.injEq, reduceCtorEq, Nat.reduceAdd, Nat.reduceSub, Nat.reduceMul, Nat.reduceEqDiff, Nat.reduceLT, Nat.reduceLeDiff, Int.reduceAdd, Int.reduceMul, Int.reduceSub, Int.reduceNeg, Int.reduceToNat, Int.reduceLT, Int.reduceLE, Int.reduceEq, ↓reduceIte, List.reverse_cons, Option.toList, List.cons_append, List.nil_append, vI_inj, vL_inj, vO_inj, rI, rL, rO, rV, mI_sQ, mL_sQ, mK_sQ, mS_sQ, mQ_s1, mQ_s2, tlX3_init, tkX3_init, o_aload, o_ic, o_iload, o_istore, o_oinit, o_putI, o_putR, o_vret, mK_n2, k0]
  try simp +contextual (disch := omega) only [impF, impT, and_true, true_and, implies_true, not_false_eq_true, not_true_eq_false]
  refine x_newai N (by decide +kernel) ar_int (by omega) (by omega) (by omega) ?_
  rw [hS1]
  refine z_run1 tsX3_init [] 30 ?_
  simp (maxSteps := 1000000) -implicitDefEqProofs +contextual (disch := omega) only [z_wp_t, z_wp_u, ↓pI_e, ↓pL_e, ↓pO_e, ↓pR_e, ↓p1_I, ↓p1_O, z_gl, z_st1, z_st2, z_nl_I, z_nl_O, z_nl_J, z_nl_L, if_true, if_false, ite_true, ite_false, true_and, and_true, List.mem_cons, List.not_mem_nil, or_false, false_or, or_self, List.length_cons, List.length_nil, InR_t, InL_t, z_ix_t, mI_s1, mI_s2, ↓brT, ↓brF, ↓brT', ↓brF', mL_sI, mR_sI, mK_sI, mS_sI, mI_sL, mL_s1, mL_s2, mR_sL, mK_sL, mS_sL, mI_sR, mL_sR, mR_s1, mR_s2, mK_sR, mS_sR, mA_s1, mA_s2, mL_sA, mR_sA, mK_sA, mS_sA, ix_n, ix_a, ix_m, ix_s, z_sw, z_stop, forall_const, true_implies, false_implies, imp_self, implies_true, not_true_eq_false, not_false_eq_true, ne_eq, eq_self, Option.some.injEq, reduceCtorEq, Nat.reduceAdd, Nat.reduceSub, Nat.reduceMul, Nat.reduceEqDiff, Nat.reduceLT, Nat.reduceLeDiff, Int.reduceAdd, Int.reduceMul, Int.reduceSub, Int.reduceNeg, Int.reduceToNat, Int.reduceLT, Int.reduceLE, Int.reduceEq, ↓reduceIte, List.reverse_cons, Option.toList, List.cons_append, List.nil_append, vI_inj, vL_inj, vO_inj, rI, rL, rO, rV, mI_sQ, mL_sQ, mK_sQ, mS_sQ, mQ_s1, mQ_s2, tlX3_init, tkX3_init, o_aload, o_ic, o_iload, o_istore, o_oinit, o_putI, o_putR, o_vret, mK_n2, k0, hS1]
  try simp +contextual (disch := omega) only [impF, impT, and_true, true_and, implies_true, not_false_eq_true, not_true_eq_false]
  rw [← hQ]
  exact ⟨rfl, rfl⟩
set_option maxHeartbeats 4000000 in
theorem sp_RuInit (l : Launch) (G : zG) (h : zH) (q : Nat) (fe cp fb tp : Int) (cr tr : Option Nat) (k0 : (gK h q).1 = 4) (hfb : fb = 0 ∨ fb = 1) (lv : Nat) (hlv : 1 ≤ lv) : z_Sp l G mtX4_init lv 0 0 [vR q, vI fe, vI cp, vO cr, vI fb, vI tp, vO tr] (h) (rV (sR (sI (sI (sR (sI (sI h q 0 fe) q 1 cp) q 2 cr) q 3 fb) q 4 tp) q 5 tr)) := by
  refine x_enter [vR q, vI fe, vI cp, vO cr, vI fb, vI tp, vO tr] (by decide +kernel) (by omega) rfl (Nat.le_of_ble_eq_true rfl) ?_
  refine z_run1 tsX4_init [] 40 ?_
  simp (maxSteps := 1000000) -implicitDefEqProofs +contextual (disch := omega) only [z_wp_t, z_wp_u, ↓pI_e, ↓pL_e, ↓pO_e, ↓pR_e, ↓p1_I, ↓p1_O, z_gl, z_st1, z_st2, z_nl_I, z_nl_O, z_nl_J, z_nl_L, if_true, if_false, ite_true, ite_false, true_and, and_true, List.mem_cons, List.not_mem_nil, or_false, false_or, or_self, List.length_cons, List.length_nil, InR_t, InL_t, z_ix_t, mI_s1, mI_s2, ↓brT, ↓brF, ↓brT', ↓brF', mL_sI, mR_sI, mK_sI, mS_sI, mI_sL, mL_s1, mL_s2, mR_sL, mK_sL, mS_sL, mI_sR, mL_sR, mR_s1, mR_s2, mK_sR, mS_sR, mA_s1, mA_s2, mL_sA, mR_sA, mK_sA, mS_sA, ix_n, ix_a, ix_m, ix_s, z_sw, z_stop, forall_const, true_implies, false_implies, imp_self, implies_true, not_true_eq_false, not_false_eq_true, ne_eq, eq_self, Option.some.injEq, reduceCtorEq, Nat.reduceAdd, Nat.reduceSub, Nat.reduceMul, Nat.reduceEqDiff, Nat.reduceLT, Nat.reduceLeDiff, Int.reduceAdd, Int.reduceMul, Int.reduceSub, Int.reduceNeg, Int.reduceToNat, Int.reduceLT, Int.reduceLE, Int.reduceEq, ↓reduceIte, List.reverse_cons, Option.toList, List.cons_append, List.nil_append, vI_inj, vL_inj, vO_inj, rI, rL, rO, rV, mI_sQ, mL_sQ, mK_sQ, mS_sQ, mQ_s1, mQ_s2, tlX4_init, o_aload, o_iload, o_oinit, o_putI, o_putR, o_putZ, o_vret, k0]
  try simp +contextual (disch := omega) only [impF, impT, and_true, true_and, implies_true, not_false_eq_true, not_true_eq_false]
  exact hfb
