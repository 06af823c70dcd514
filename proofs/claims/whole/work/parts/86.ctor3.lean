/-! constructors: RuleText -/
def TxE (h : zH) (b : Nat) : Prop := (gK h b).1 = 5 ∧ gK h (b + 1) = (9, 40) ∧ gR h b 0 = some (b + 1) ∧ gR h b 6 = some (b + 2) ∧ gR h b 9 = some (b + 5) ∧ gI h b 1 = 0 ∧ RgS h (b + 2) 20 ∧ RgS h (b + 5) 20
theorem RgS.sm {h h' : zH} {q N : Nat} (hs : ∀ a, q ≤ a → a ≤ q + 2 → Sa h h' a) (hE : RgS h q N) : RgS h' q N := by
  unfold RgS
  rw [(hs q (by omega) (by omega)).1, (hs (q + 1) (by omega) (by omega)).1, (hs (q + 2) (by omega) (by omega)).1, (hs q (by omega) (by omega)).2.2]
  exact hE
/-- a range that has been made -/
theorem rg_new {h : zH} {q N : Nat} (k0 : (gK h q).1 = 3) (hq : gS h = q + 1) (hN : N ≤ 20) : gS (sI (sR (nC (sR (nC h (9, N)) q 0 (some (gS h))) (9, N)) q 1 (some (gS h + 1))) q 2 0) = q + 3 ∧ (∀ a, a < q → Sa h (sI (sR (nC (sR (nC h (9, N)) q 0 (some (gS h))) (9, N)) q 1 (some (gS h + 1))) q 2 0) a) ∧ RgS (sI (sR (nC (sR (nC h (9, N)) q 0 (some (gS h))) (9, N)) q 1 (some (gS h + 1))) q 2 0) q N := by
  have a1 : Ar h (sR (nC h (9, N)) q 0 (some (gS h))) q (q + 1) 1 slS (fun _ => (9, N)) := (Ar.z (sl := slS) (kd := fun _ => (9, N)) hq).st (by omega) (by decide) (9, N) 0 rfl rfl
  have e1 : gS (sR (nC h (9, N)) q 0 (some (gS h))) = gS h + 1 := rfl
  have a2 := a1.st (by omega) (by decide) (9, N) 1 rfl rfl
  rw [e1] at a2
  generalize sR (nC (sR (nC h (9, N)) q 0 (some (gS h))) (9, N)) q 1 (some (gS h + 1)) = h2 at *
  obtain ⟨b1, b2, b3, b4, b5, b6⟩ := a2
  refine ⟨by rw [mS_sI, b1], fun a ha => (b2 a (by omega) (by omega)).tr (Sa.i (by omega)), ?_, (b6 0 (by omega)).1, (b6 1 (by omega)).1, (b6 0 (by omega)).2.1, (b6 1 (by omega)).2.1, hN⟩
  rw [mK_sI, b3]
  exact k0
set_option maxRecDepth 4000 in
set_option maxHeartbeats 4000000 in
theorem sp_TxInit (l : Launch) (G : zG) (h : zH) (b : Nat) (k0 : (gK h b).1 = 5) (hq : gS h = b + 1) (lv : Nat) (hlv : 3 ≤ lv) : z_Sp l G mtX5_init lv 7 126 [vR b] (h) (fun r h' => r = none ∧ gS h' = b + 8 ∧ (∀ a, a < b → Sa h h' a) ∧ TxE h' b) := by
  refine x_enter [vR b] (by decide +kernel) (by omega) rfl (Nat.le_of_ble_eq_true rfl) ?_
  generalize hQ : (fun (r : Option zV) (h' : zH) => r = none ∧ gS h' = b + 8 ∧ (∀ a, a < b → Sa h h' a) ∧ TxE h' b) = QQ
  refine z_run1 tsX5_init [] 20 ?_
  simp (maxSteps := 1000000) -implicitDefEqProofs +contextual (disch := omega) only [z_wp_t, z_wp_u, ↓pI_e, ↓pL_e, ↓pO_e, ↓pR_e, ↓p1_I, ↓p1_O, z_gl, z_st1, z_st2, z_nl_I, z_nl_O, z_nl_J, z_nl_L, if_true, if_false, ite_true, ite_false, true_and, and_true, List.mem_cons, List.not_mem_nil, or_false, false_or, or_self, List.length_cons, List.length_nil, InR_t, InL_t, z_ix_t, mI_s1, mI_s2, ↓brT, ↓brF, ↓brT', ↓brF', mL_sI, mR_sI, mK_sI, mS_sI, mI_sL, mL_s1, mL_s2, mR_sL, mK_sL, mS_sL, mI_sR, mL_sR, mR_s1, mR_s2, mK_sR, mS_sR, mA_s1, mA_s2, mL_sA, mR_sA, mK_sA, mS_sA, ix_n, ix_a, ix_m, ix_s, z_sw, z_stop, forall_const, true_implies, false_implies, imp_self, implies_true, not_true_eq_false, not_false_eq_true, ne_eq, eq_self, Option.some.injEq, reduceCtorEq, Nat.reduceAdd, Nat.reduceSub, Nat.reduceMul, Nat.reduceEqDiff, Nat.reduceLT, Nat.reduceLeDiff, Int.reduceAdd, Int.reduceMul, Int.reduceSub, Int.reduceNeg, Int.reduceToNat, Int.reduceLT, Int.reduceLE, Int.reduceEq, ↓reduceIte, List.reverse_cons, Option.toList, List.cons_append, List.nil_append, vI_inj, vL_inj, vO_inj, rI, rL, rO, rV, mI_sQ, mL_sQ, mK_sQ, mS_sQ, mQ_s1, mQ_s2, iL_and, iL_or, iL_xor, iL_shl, iL_ushr, iR_and, iR_or, iR_xor, iR_shl, iR_shr, iR_ushr, iR_cmp, yc0, tlX5_init, tkX5_init, o_aload, o_dup, o_ic, o_oinit, o_putI, o_putR, o_vret]
  try simp +contextual (disch := omega) only [impF, impT, and_true, true_and, implies_true, not_false_eq_true, not_true_eq_false]
  refine x_newai 40 (by decide +kernel) ar_int (by omega) (by omega) (by omega) ?_
  have hne : b ≠ gS h := by omega
  have a1 : Ar h (sR (nC h (9, 40)) b 0 (some (gS h))) b (b + 1) 1 slS (fun _ => (9, 40)) := (Ar.z (sl := slS) (kd := fun _ => (9, 40)) hq).st (by omega) (by decide) (9, 40) 0 rfl rfl
  refine z_run1 tsX5_init [] 30 ?_
  simp (maxSteps := 1000000) -implicitDefEqProofs +contextual (disch := omega) only [z_wp_t, z_wp_u, ↓pI_e, ↓pL_e, ↓pO_e, ↓pR_e, ↓p1_I, ↓p1_O, z_gl, z_st1, z_st2, z_nl_I, z_nl_O, z_nl_J, z_nl_L, if_true, if_false, ite_true, ite_false, true_and, and_true, List.mem_cons, List.not_mem_nil, or_false, false_or, or_self, List.length_cons, List.length_nil, InR_t, InL_t, z_ix_t, mI_s1, mI_s2, ↓brT, ↓brF, ↓brT', ↓brF', mL_sI, mR_sI, mK_sI, mS_sI, mI_sL, mL_s1, mL_s2, mR_sL, mK_sL, mS_sL, mI_sR, mL_sR, mR_s1, mR_s2, mK_sR, mS_sR, mA_s1, mA_s2, mL_sA, mR_sA, mK_sA, mS_sA, ix_n, ix_a, ix_m, ix_s, z_sw, z_stop, forall_const, true_implies, false_implies, imp_self, implies_true, not_true_eq_false, not_false_eq_true, ne_eq, eq_self, Option.some.injEq, reduceCtorEq, Nat.reduceAdd, Nat.reduceSub, Nat.reduceMul, Nat.reduceEqDiff, Nat.reduceLT, Nat.reduceLeDiff, Int.reduceAdd, Int.reduceMul, Int.reduceSub, Int.reduceNeg, Int.reduceToNat, Int.reduceLT, Int.reduceLE, Int.reduceEq, ↓reduceIte, List.reverse_cons, Option.toList, List.cons_append, List.nil_append, vI_inj, vL_inj, vO_inj, rI, rL, rO, rV, mI_sQ, mL_sQ, mK_sQ, mS_sQ, mQ_s1, mQ_s2, iL_and, iL_or, iL_xor, iL_shl, iL_ushr, iR_and, iR_or, iR_xor, iR_shl, iR_shr, iR_ushr, iR_cmp, yc0, tlX5_init, tkX5_init, o_aload, o_dup, o_ic, o_oinit, o_putI, o_putR, o_vret, mK_n2, k0]
  try simp +contextual (disch := omega) only [impF, impT, and_true, true_and, implies_true, not_false_eq_true, not_true_eq_false]
  have k1 : (gK (sR (nC h (9, 40)) b 0 (some (gS h))) b).1 = 5 := by rw [a1.2.2.1]; exact k0
  generalize sR (nC h (9, 40)) b 0 (some (gS h)) = h1 at *
  obtain ⟨b1, b2, b3, b4, b5, b6⟩ := a1
  have g2 : gS (sI h1 b 1 0) = b + 2 := by rw [mS_sI, b1]
  have k2 : (gK (sI h1 b 1 0) b).1 = 5 := k1
  have s2 : ∀ a, a < b → Sa h (sI h1 b 1 0) a := fun a ha => (b2 a (by omega) (by omega)).tr (Sa.i (by omega))
  have kk2 : gK (sI h1 b 1 0) (b + 1) = (9, 40) := (b6 0 (by omega)).1
  have r2 : gR (sI h1 b 1 0) b 0 = some (b + 1) := (b6 0 (by omega)).2.1
  have i2 : gI (sI h1 b 1 0) b 1 = 0 := mI_s1 _ _ _ _
  clear b1 b2 b3 b4 b5 b6
  generalize sI h1 b 1 0 = h2 at *
  refine x_new 3 (by decide +kernel) (by decide) lw_X5_19 nw_X3 in_X3 (by omega) (by decide) ?_
  rw [g2, show z_nf 3 = 3 from rfl]
  have s3 : ∀ a, a < b + 2 → Sa h2 (nC h2 (3, 0)) a := fun a ha => Sa.n (by omega)
  have kr : (gK (nC h2 (3, 0)) (b + 2)).1 = 3 := by rw [← g2, mK_n1]
  have g3 : gS (nC h2 (3, 0)) = b + 2 + 1 := by rw [mS_nC, g2]
  generalize nC h2 (3, 0) = h3 at *
  refine z_run1 tsX5_init [] 20 ?_
  simp (maxSteps := 1000000) -implicitDefEqProofs +contextual (disch := omega) only [z_wp_t, z_wp_u, ↓pI_e, ↓pL_e, ↓pO_e, ↓pR_e, ↓p1_I, ↓p1_O, z_gl, z_st1, z_st2, z_nl_I, z_nl_O, z_nl_J, z_nl_L, if_true, if_false, ite_true, ite_false, true_and, and_true, List.mem_cons, List.not_mem_nil, or_false, false_or, or_self, List.length_cons, List.length_nil, InR_t, InL_t, z_ix_t, mI_s1, mI_s2, ↓brT, ↓brF, ↓brT', ↓brF', mL_sI, mR_sI, mK_sI, mS_sI, mI_sL, mL_s1, mL_s2, mR_sL, mK_sL, mS_sL, mI_sR, mL_sR, mR_s1, mR_s2, mK_sR, mS_sR, mA_s1, mA_s2, mL_sA, mR_sA, mK_sA, mS_sA, ix_n, ix_a, ix_m, ix_s, z_sw, z_stop, forall_const, true_implies, false_implies, imp_self, implies_true, not_true_eq_false, not_false_eq_true, ne_eq, eq_self, Option.some.injEq, reduceCtorEq, Nat.reduceAdd, Nat.reduceSub, Nat.reduceMul, Nat.reduceEqDiff, Nat.reduceLT, Nat.reduceLeDiff, Int.reduceAdd, Int.reduceMul, Int.reduceSub, Int.reduceNeg, Int.reduceToNat, Int.reduceLT, Int.reduceLE, Int.reduceEq, ↓reduceIte, List.reverse_cons, Option.toList, List.cons_append, List.nil_append, vI_inj, vL_inj, vO_inj, rI, rL, rO, rV, mI_sQ, mL_sQ, mK_sQ, mS_sQ, mQ_s1, mQ_s2, iL_and, iL_or, iL_xor, iL_shl, iL_ushr, iR_and, iR_or, iR_xor, iR_shl, iR_shr, iR_ushr, iR_cmp, yc0, tlX5_init, tkX5_init, o_aload, o_dup, o_ic, o_oinit, o_putI, o_putR, o_vret]
  try simp +contextual (disch := omega) only [impF, impT, and_true, true_and, implies_true, not_false_eq_true, not_true_eq_false]
  have hrg := sp_RgInit l G h3 (b + 2) 20 kr (by omega) (by omega) 2 (by omega)
  obtain ⟨n1, n2, n3⟩ := rg_new (N := 20) kr g3 (by omega)
  rw [show ((20 : Nat) : Int) = 20 from rfl] at hrg
  generalize sI (sR (nC (sR (nC h3 (9, 20)) (b + 2) 0 (some (gS h3))) (9, 20)) (b + 2) 1 (some (gS h3 + 1))) (b + 2) 2 0 = h4 at *
  refine x_callI (by decide +kernel) cv_X5_21 (hrg) (by omega) rfl (by omega) (by omega) rfl (Nat.le_of_ble_eq_true rfl) ?_
  rintro r h' ⟨rfl, hE⟩
  subst h'
  have s24 : ∀ a, a < b + 2 → Sa h2 h4 a := fun a ha => (s3 a ha).tr (n2 a ha)
  have k4 : (gK h4 b).1 = 5 := by rw [(s24 b (by omega)).1]; exact k2
  refine z_run1 tsX5_init [] 20 ?_
  simp (maxSteps := 1000000) -implicitDefEqProofs +contextual (disch := omega) only [z_wp_t, z_wp_u, ↓pI_e, ↓pL_e, ↓pO_e, ↓pR_e, ↓p1_I, ↓p1_O, z_gl, z_st1, z_st2, z_nl_I, z_nl_O, z_nl_J, z_nl_L, if_true, if_false, ite_true, ite_false, true_and, and_true, List.mem_cons, List.not_mem_nil, or_false, false_or, or_self, List.length_cons, List.length_nil, InR_t, InL_t, z_ix_t, mI_s1, mI_s2, ↓brT, ↓brF, ↓brT', ↓brF', mL_sI, mR_sI, mK_sI, mS_sI, mI_sL, mL_s1, mL_s2, mR_sL, mK_sL, mS_sL, mI_sR, mL_sR, mR_s1, mR_s2, mK_sR, mS_sR, mA_s1, mA_s2, mL_sA, mR_sA, mK_sA, mS_sA, ix_n, ix_a, ix_m, ix_s, z_sw, z_stop, forall_const, true_implies, false_implies, imp_self, implies_true, not_true_eq_false, not_false_eq_true, ne_eq, eq_self, Option.some.injEq, reduceCtorEq, Nat.reduceAdd, Nat.reduceSub, Nat.reduceMul, Nat.reduceEqDiff, Nat.reduceLT, Nat.reduceLeDiff, Int.reduceAdd, Int.reduceMul, Int.reduceSub, Int.reduceNeg, Int.reduceToNat, Int.reduceLT, Int.reduceLE, Int.reduceEq, ↓reduceIte, List.reverse_cons, Option.toList, List.cons_append, List.nil_append, vI_inj, vL_inj, vO_inj, rI, rL, rO, rV, mI_sQ, mL_sQ, mK_sQ, mS_sQ, mQ_s1, mQ_s2, iL_and, iL_or, iL_xor, iL_shl, iL_ushr, iR_and, iR_or, iR_xor, iR_shl, iR_shr, iR_ushr, iR_cmp, yc0, tlX5_init, tkX5_init, o_aload, o_dup, o_ic, o_oinit, o_putI, o_putR, o_vret, k4]
  try simp +contextual (disch := omega) only [impF, impT, and_true, true_and, implies_true, not_false_eq_true, not_true_eq_false]
  have g5 : gS (sR h4 b 6 (some (b + 2))) = b + 5 := by rw [mS_sR, n1]
  have k5 : (gK (sR h4 b 6 (some (b + 2))) b).1 = 5 := by rw [mK_sR]; exact k4
  have s5 : ∀ a, a < b → Sa h (sR h4 b 6 (some (b + 2))) a := fun a ha => (s2 a ha).tr ((s24 a (by omega)).tr (Sa.r (by omega)))
  have kk5 : gK (sR h4 b 6 (some (b + 2))) (b + 1) = (9, 40) := by rw [mK_sR, (s24 (b + 1) (by omega)).1]; exact kk2
  have r50 : gR (sR h4 b 6 (some (b + 2))) b 0 = some (b + 1) := by rw [mR_s2 _ _ (Or.inr (by omega)), (s24 b (by omega)).2.2]; exact r2
  have r56 : gR (sR h4 b 6 (some (b + 2))) b 6 = some (b + 2) := mR_s1 _ _ _ _
  have i5 : gI (sR h4 b 6 (some (b + 2))) b 1 = 0 := by
    rw [mI_sR, (s24 b (by omega)).2.1]; exact i2
  have rs5 : RgS (sR h4 b 6 (some (b + 2))) (b + 2) 20 := n3.sm (fun a q1 q2 => Sa.r (by omega))
  clear s2 s3 s24 n2 n3
  generalize sR h4 b 6 (some (b + 2)) = h5 at *
  refine x_new 3 (by decide +kernel) (by decide) lw_X5_19 nw_X3 in_X3 (by omega) (by decide) ?_
  rw [g5, show z_nf 3 = 3 from rfl]
  have s6 : ∀ a, a < b + 5 → Sa h5 (nC h5 (3, 0)) a := fun a ha => Sa.n (by omega)
  have kr6 : (gK (nC h5 (3, 0)) (b + 5)).1 = 3 := by rw [← g5, mK_n1]
  have g6 : gS (nC h5 (3, 0)) = b + 5 + 1 := by rw [mS_nC, g5]
  generalize nC h5 (3, 0) = h6 at *
  refine z_run1 tsX5_init [] 20 ?_
  simp (maxSteps := 1000000) -implicitDefEqProofs +contextual (disch := omega) only [z_wp_t, z_wp_u, ↓pI_e, ↓pL_e, ↓pO_e, ↓pR_e, ↓p1_I, ↓p1_O, z_gl, z_st1, z_st2, z_nl_I, z_nl_O, z_nl_J, z_nl_L, if_true, if_false, ite_true, ite_false, true_and, and_true, List.mem_cons, List.not_mem_nil, or_false, false_or, or_self, List.length_cons, List.length_nil, InR_t, InL_t, z_ix_t, mI_s1, mI_s2, ↓brT, ↓brF, ↓brT', ↓brF', mL_sI, mR_sI, mK_sI, mS_sI, mI_sL, mL_s1, mL_s2, mR_sL, mK_sL, mS_sL, mI_sR, mL_sR, mR_s1, mR_s2, mK_sR, mS_sR, mA_s1, mA_s2, mL_sA, mR_sA, mK_sA, mS_sA, ix_n, ix_a, ix_m, ix_s, z_sw, z_stop, forall_const, true_implies, false_implies, imp_self, implies_true, not_true_eq_false, not_false_eq_true, ne_eq, eq_self, Option.some.injEq, reduceCtorEq, Nat.reduceAdd, Nat.reduceSub, Nat.reduceMul, Nat.reduceEqDiff, Nat.reduceLT, Nat.reduceLeDiff, Int.reduceAdd, Int.reduceMul, Int.reduceSub, Int.reduceNeg, Int.reduceToNat, Int.reduceLT, Int.reduceLE, Int.reduceEq, ↓reduceIte, List.reverse_cons, Option.toList, List.cons_append, List.nil_append, vI_inj, vL_inj, vO_inj, rI, rL, rO, rV, mI_sQ, mL_sQ, mK_sQ, mS_sQ, mQ_s1, mQ_s2, iL_and, iL_or, iL_xor, iL_shl, iL_ushr, iR_and, iR_or, iR_xor, iR_shl, iR_shr, iR_ushr, iR_cmp, yc0, tlX5_init, tkX5_init, o_aload, o_dup, o_ic, o_oinit, o_putI, o_putR, o_vret]
  try simp +contextual (disch := omega) only [impF, impT, and_true, true_and, implies_true, not_false_eq_true, not_true_eq_false]
  have hrg := sp_RgInit l G h6 (b + 5) 20 kr6 (by omega) (by omega) 2 (by omega)
  obtain ⟨m1, m2, m3⟩ := rg_new (N := 20) kr6 g6 (by omega)
  rw [show ((20 : Nat) : Int) = 20 from rfl] at hrg
  generalize sI (sR (nC (sR (nC h6 (9, 20)) (b + 5) 0 (some (gS h6))) (9, 20)) (b + 5) 1 (some (gS h6 + 1))) (b + 5) 2 0 = h7 at *
  refine x_callI (by decide +kernel) cv_X5_21 (hrg) (by omega) rfl (by omega) (by omega) rfl (Nat.le_of_ble_eq_true rfl) ?_
  rintro r h' ⟨rfl, hE⟩
  subst h'
  have s57 : ∀ a, a < b + 5 → Sa h5 h7 a := fun a ha => (s6 a ha).tr (m2 a ha)
  have k7 : (gK h7 b).1 = 5 := by rw [(s57 b (by omega)).1]; exact k5
  have w1 : gS (sR h7 b 9 (some (b + 5))) = b + 8 := by rw [mS_sR]; omega
  have w2 : ∀ a, a < b → Sa h (sR h7 b 9 (some (b + 5))) a := fun a ha => (s5 a ha).tr ((s57 a (by omega)).tr (Sa.r (by omega)))
  have w3 : gK (sR h7 b 9 (some (b + 5))) (b + 1) = (9, 40) := by rw [mK_sR, (s57 (b + 1) (by omega)).1]; exact kk5
  have w4 : gR (sR h7 b 9 (some (b + 5))) b 0 = some (b + 1) := by rw [mR_s2 _ _ (Or.inr (by omega)), (s57 b (by omega)).2.2]; exact r50
  have w5 : gR (sR h7 b 9 (some (b + 5))) b 6 = some (b + 2) := by rw [mR_s2 _ _ (Or.inr (by omega)), (s57 b (by omega)).2.2]; exact r56
  have w6 : gR (sR h7 b 9 (some (b + 5))) b 9 = some (b + 5) := mR_s1 _ _ _ _
  have w7a : gI h7 b 1 = 0 := (congrFun (s57 b (by omega)).2.1 1).trans i5
  have w7 : gI (sR h7 b 9 (some (b + 5))) b 1 = 0 := by rw [mI_sR]; exact w7a
  have s8 : ∀ a, b < a → a < b + 5 → Sa h5 (sR h7 b 9 (some (b + 5))) a := fun a q1 q2 => (s57 a q2).tr (Sa.r (by omega))
  have w8 : RgS (sR h7 b 9 (some (b + 5))) (b + 2) 20 := RgS.sm (fun a q1 q2 => s8 a (by omega) (by omega)) rs5
  have s9 : ∀ a, b < a → Sa h7 (sR h7 b 9 (some (b + 5))) a := fun a q1 => Sa.r (by omega)
  have w9 : RgS (sR h7 b 9 (some (b + 5))) (b + 5) 20 := RgS.sm (fun a q1 q2 => s9 a (by omega)) m3
  have w0 : (gK (sR h7 b 9 (some (b + 5))) b).1 = 5 := by rw [mK_sR]; exact k7
  have hT : TxE (sR h7 b 9 (some (b + 5))) b := ⟨w0, w3, w4, w5, w6, w7, w8, w9⟩
  have hfin : QQ none (sR h7 b 9 (some (b + 5))) := by
    rw [← hQ]
    exact ⟨rfl, w1, w2, hT⟩
  clear hQ s5 s6 s57 m2 m3 rs5 w2 w8 w9 hT s8 s9
  refine z_run1 tsX5_init [] 20 ?_
  simp (maxSteps := 1000000) -implicitDefEqProofs +contextual (disch := omega) only [z_wp_t, z_wp_u, ↓pI_e, ↓pL_e, ↓pO_e, ↓pR_e, ↓p1_I, ↓p1_O, z_gl, z_st1, z_st2, z_nl_I, z_nl_O, z_nl_J, z_nl_L, if_true, if_false, ite_true, ite_false, true_and, and_true, List.mem_cons, List.not_mem_nil, or_false, false_or, or_self, List.length_cons, List.length_nil, InR_t, InL_t, z_ix_t, mI_s1, mI_s2, ↓brT, ↓brF, ↓brT', ↓brF', mL_sI, mR_sI, mK_sI, mS_sI, mI_sL, mL_s1, mL_s2, mR_sL, mK_sL, mS_sL, mI_sR, mL_sR, mR_s1, mR_s2, mK_sR, mS_sR, mA_s1, mA_s2, mL_sA, mR_sA, mK_sA, mS_sA, ix_n, ix_a, ix_m, ix_s, z_sw, z_stop, forall_const, true_implies, false_implies, imp_self, implies_true, not_true_eq_false, not_false_eq_true, ne_eq, eq_self, Option.some.injEq, reduceCtorEq, Nat.reduceAdd, Nat.reduceSub, Nat.reduceMul, Nat.reduceEqDiff, Nat.reduceLT, Nat.reduceLeDiff, Int.reduceAdd, Int.reduceMul, Int.reduceSub, Int.reduceNeg, Int.reduceToNat, Int.reduceLT, Int.reduceLE, Int.reduceEq, ↓reduceIte, List.reverse_cons, Option.toList, List.cons_append, List.nil_append, vI_inj, vL_inj, vO_inj, rI, rL, rO, rV, mI_sQ, mL_sQ, mK_sQ, mS_sQ, mQ_s1, mQ_s2, iL_and, iL_or, iL_xor, iL_shl, iL_ushr, iR_and, iR_or, iR_xor, iR_shl, iR_shr, iR_ushr, iR_cmp, yc0, tlX5_init, tkX5_init, o_aload, o_dup, o_ic, o_oinit, o_putI, o_putR, o_vret, k7]
  try simp +contextual (disch := omega) only [impF, impT, and_true, true_and, implies_true, not_false_eq_true, not_true_eq_false]
  exact hfin
