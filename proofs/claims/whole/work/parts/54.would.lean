/-! VersionResolver.wouldChange, digest -/
theorem CI.try {h h' : zH} {s : zS} (hC : CI h s) (f : Fr (fun c => 17 ≤ c ∧ c ≤ 32) h h') (h1 : ShO h' 17) (h2 : ShS h' 18) (h3 : NlOK h' 23) : CI h' s ∧ Gx h h' := by
  obtain ⟨a1, a2, a3, ⟨a4, a5, a6⟩, a7, a8, a9⟩ := hC
  exact ⟨⟨a1.fr f (by omega), a2.fr f (fun c q1 q2 => by omega) (fun q hq => by omega), a3, ⟨h1, h2, h3⟩, a7.fr f (fun q w => by omega), a8.fr f (fun c q1 q2 => by omega), by rw [f.S]; exact a9⟩, Gx.of f (fun c q => by omega)⟩
def chA (A : zA) (p : Nat) (v : Int) : zA := if fIx (aV A p) v (aN A p) 0 = -1 then insA A p v else remA A p (fIx (aV A p) v (aN A p) 0).toNat
def fWould (s : zS) (p v : Int) : Int := if okP p && okV v then (match bestA (sW s) with
  | none => -3
  | some t => if fIx (aV (sW s) p.toNat) v (aN (sW s) p.toNat) 0 = -1 ∧ 4 ≤ aN (sW s) p.toNat then -4 else (match bestA (chA (sW s) p.toNat v) with
    | none => -1
    | some u => (dfN (sW s) (chA (sW s) p.toNat v) t u : Int))) else -2
set_option maxRecDepth 4000 in
set_option maxHeartbeats 4000000 in
theorem sp_wouldChange (l : Launch) (G : zG) (h : zH) (s : zS) (p v : Int) (hC : CI h s) (hp : InR p) (hv : InR v) (lv : Nat) (hlv : 14 ≤ lv) : z_Sp l G mtX7_wouldChange lv 0 0 [vR 0, vI p, vI v] (h) (cQ h (fWould s p v, s)) := by
  refine x_enter [vR 0, vI p, vI v, vJ] (by decide +kernel) (by omega) rfl (Nat.le_of_ble_eq_true rfl) ?_
  generalize hQ : cQ h (fWould s p v, s) = QQ
  obtain ⟨v0, v1, v2, v3, v4, v5, v6⟩ := hC.1
  have hA := hC.2.2.1
  refine z_run1 tsX7_wouldChange [] 20 ?_
  simp (maxSteps := 1000000) -implicitDefEqProofs +contextual (disch := omega) only [z_wp_t, z_wp_u, ↓pI_e, ↓pL_e, ↓pO_e, ↓pR_e, ↓p1_I, ↓p1_O, z_gl, z_st1, z_st2, z_nl_I, z_nl_O, z_nl_J, z_nl_L, if_true, if_false, ite_true, ite_false, true_and, and_true, List.mem_cons, List.not_mem_nil, or_false, false_or, or_self, List.length_cons, List.length_nil, InR_t, InL_t, z_ix_t, mI_s1, mI_s2, ↓brT, ↓brF, ↓brT', ↓brF', mL_sI, mR_sI, mK_sI, mS_sI, mI_sL, mL_s1, mL_s2, mR_sL, mK_sL, mS_sL, mI_sR, mL_sR, mR_s1, mR_s2, mK_sR, mS_sR, mA_s1, mA_s2, mL_sA, mR_sA, mK_sA, mS_sA, ix_n, ix_a, ix_m, ix_s, z_sw, z_stop, forall_const, true_implies, false_implies, imp_self, implies_true, not_true_eq_false, not_false_eq_true, ne_eq, eq_self, Option.some.injEq, reduceCtorEq, Nat.reduceAdd, Nat.reduceSub, Nat.reduceMul, Nat.reduceEqDiff, Nat.reduceLT, Nat.reduceLeDiff, Int.reduceAdd, Int.reduceMul, Int.reduceSub, Int.reduceNeg, Int.reduceToNat, Int.reduceLT, Int.reduceLE, Int.reduceEq, ↓reduceIte, List.reverse_cons, Option.toList, List.cons_append, List.nil_append, vI_inj, vL_inj, vO_inj, rI, rL, rO, rV, mI_sQ, mL_sQ, mK_sQ, mS_sQ, mQ_s1, mQ_s2, iL_and, iL_or, iL_xor, iL_shl, iL_ushr, iR_and, iR_or, iR_xor, iR_shl, iR_shr, iR_ushr, iR_cmp, yc0, tlX7_wouldChange, tkX7_wouldChange, o_aload, o_getR, o_goto, o_ic, o_iceq, o_ifeq, o_ifne, o_iload, o_iret, o_istore]
  try simp +contextual (disch := omega) only [impF, impT, and_true, true_and, implies_true, not_false_eq_true, not_true_eq_false]
  refine x_callS (by decide +kernel) cv_X7_43 (sp_ip l G h p hp 1 (by omega)) (by omega) rfl (by omega) (by omega) rfl (Nat.le_of_ble_eq_true rfl) ?_
  rintro r h' ⟨rfl, hE⟩
  subst h'
  cases hop : okP p
  · simp only [Bool.false_eq_true, if_false]
    refine z_run1 tsX7_wouldChange [] 20 ?_
    simp (maxSteps := 1000000) -implicitDefEqProofs +contextual (disch := omega) only [z_wp_t, z_wp_u, ↓pI_e, ↓pL_e, ↓pO_e, ↓pR_e, ↓p1_I, ↓p1_O, z_gl, z_st1, z_st2, z_nl_I, z_nl_O, z_nl_J, z_nl_L, if_true, if_false, ite_true, ite_false, true_and, and_true, List.mem_cons, List.not_mem_nil, or_false, false_or, or_self, List.length_cons, List.length_nil, InR_t, InL_t, z_ix_t, mI_s1, mI_s2, ↓brT, ↓brF, ↓brT', ↓brF', mL_sI, mR_sI, mK_sI, mS_sI, mI_sL, mL_s1, mL_s2, mR_sL, mK_sL, mS_sL, mI_sR, mL_sR, mR_s1, mR_s2, mK_sR, mS_sR, mA_s1, mA_s2, mL_sA, mR_sA, mK_sA, mS_sA, ix_n, ix_a, ix_m, ix_s, z_sw, z_stop, forall_const, true_implies, false_implies, imp_self, implies_true, not_true_eq_false, not_false_eq_true, ne_eq, eq_self, Option.some.injEq, reduceCtorEq, Nat.reduceAdd, Nat.reduceSub, Nat.reduceMul, Nat.reduceEqDiff, Nat.reduceLT, Nat.reduceLeDiff, Int.reduceAdd, Int.reduceMul, Int.reduceSub, Int.reduceNeg, Int.reduceToNat, Int.reduceLT, Int.reduceLE, Int.reduceEq, ↓reduceIte, List.reverse_cons, Option.toList, List.cons_append, List.nil_append, vI_inj, vL_inj, vO_inj, rI, rL, rO, rV, mI_sQ, mL_sQ, mK_sQ, mS_sQ, mQ_s1, mQ_s2, iL_and, iL_or, iL_xor, iL_shl, iL_ushr, iR_and, iR_or, iR_xor, iR_shl, iR_shr, iR_ushr, iR_cmp, yc0, tlX7_wouldChange, tkX7_wouldChange, o_aload, o_getR, o_goto, o_ic, o_iceq, o_ifeq, o_ifne, o_iload, o_iret, o_istore]
    try simp +contextual (disch := omega) only [impF, impT, and_true, true_and, implies_true, not_false_eq_true, not_true_eq_false]
    rw [← hQ, fWould, hop]
    exact ⟨rfl, hC, Gx.rf⟩
  · simp only [if_true]
    refine z_run1 tsX7_wouldChange [] 20 ?_
    simp (maxSteps := 1000000) -implicitDefEqProofs +contextual (disch := omega) only [z_wp_t, z_wp_u, ↓pI_e, ↓pL_e, ↓pO_e, ↓pR_e, ↓p1_I, ↓p1_O, z_gl, z_st1, z_st2, z_nl_I, z_nl_O, z_nl_J, z_nl_L, if_true, if_false, ite_true, ite_false, true_and, and_true, List.mem_cons, List.not_mem_nil, or_false, false_or, or_self, List.length_cons, List.length_nil, InR_t, InL_t, z_ix_t, mI_s1, mI_s2, ↓brT, ↓brF, ↓brT', ↓brF', mL_sI, mR_sI, mK_sI, mS_sI, mI_sL, mL_s1, mL_s2, mR_sL, mK_sL, mS_sL, mI_sR, mL_sR, mR_s1, mR_s2, mK_sR, mS_sR, mA_s1, mA_s2, mL_sA, mR_sA, mK_sA, mS_sA, ix_n, ix_a, ix_m, ix_s, z_sw, z_stop, forall_const, true_implies, false_implies, imp_self, implies_true, not_true_eq_false, not_false_eq_true, ne_eq, eq_self, Option.some.injEq, reduceCtorEq, Nat.reduceAdd, Nat.reduceSub, Nat.reduceMul, Nat.reduceEqDiff, Nat.reduceLT, Nat.reduceLeDiff, Int.reduceAdd, Int.reduceMul, Int.reduceSub, Int.reduceNeg, Int.reduceToNat, Int.reduceLT, Int.reduceLE, Int.reduceEq, ↓reduceIte, List.reverse_cons, Option.toList, List.cons_append, List.nil_append, vI_inj, vL_inj, vO_inj, rI, rL, rO, rV, mI_sQ, mL_sQ, mK_sQ, mS_sQ, mQ_s1, mQ_s2, iL_and, iL_or, iL_xor, iL_shl, iL_ushr, iR_and, iR_or, iR_xor, iR_shl, iR_shr, iR_ushr, iR_cmp, yc0, tlX7_wouldChange, tkX7_wouldChange, o_aload, o_getR, o_goto, o_ic, o_iceq, o_ifeq, o_ifne, o_iload, o_iret, o_istore]
    try simp +contextual (disch := omega) only [impF, impT, and_true, true_and, implies_true, not_false_eq_true, not_true_eq_false]
    refine x_callS (by decide +kernel) cv_X7_47 (sp_iv l G h v hv 1 (by omega)) (by omega) rfl (by omega) (by omega) rfl (Nat.le_of_ble_eq_true rfl) ?_
    rintro r h' ⟨rfl, hE⟩
    subst h'
    cases hov : okV v
    · simp only [Bool.false_eq_true, if_false]
      refine z_run1 tsX7_wouldChange [] 20 ?_
      simp (maxSteps := 1000000) -implicitDefEqProofs +contextual (disch := omega) only [z_wp_t, z_wp_u, ↓pI_e, ↓pL_e, ↓pO_e, ↓pR_e, ↓p1_I, ↓p1_O, z_gl, z_st1, z_st2, z_nl_I, z_nl_O, z_nl_J, z_nl_L, if_true, if_false, ite_true, ite_false, true_and, and_true, List.mem_cons, List.not_mem_nil, or_false, false_or, or_self, List.length_cons, List.length_nil, InR_t, InL_t, z_ix_t, mI_s1, mI_s2, ↓brT, ↓brF, ↓brT', ↓brF', mL_sI, mR_sI, mK_sI, mS_sI, mI_sL, mL_s1, mL_s2, mR_sL, mK_sL, mS_sL, mI_sR, mL_sR, mR_s1, mR_s2, mK_sR, mS_sR, mA_s1, mA_s2, mL_sA, mR_sA, mK_sA, mS_sA, ix_n, ix_a, ix_m, ix_s, z_sw, z_stop, forall_const, true_implies, false_implies, imp_self, implies_true, not_true_eq_false, not_false_eq_true, ne_eq, eq_self, Option.some.injEq, reduceCtorEq, Nat.reduceAdd, Nat.reduceSub, Nat.reduceMul, Nat.reduceEqDiff, Nat.reduceLT, Nat.reduceLeDiff, Int.reduceAdd, Int.reduceMul, Int.reduceSub, Int.reduceNeg, Int.reduceToNat, Int.reduceLT, Int.reduceLE, Int.reduceEq, ↓reduceIte, List.reverse_cons, Option.toList, List.cons_append, List.nil_append, vI_inj, vL_inj, vO_inj, rI, rL, rO, rV, mI_sQ, mL_sQ, mK_sQ, mS_sQ, mQ_s1, mQ_s2, iL_and, iL_or, iL_xor, iL_shl, iL_ushr, iR_and, iR_or, iR_xor, iR_shl, iR_shr, iR_ushr, iR_cmp, yc0, tlX7_wouldChange, tkX7_wouldChange, o_aload, o_getR, o_goto, o_ic, o_iceq, o_ifeq, o_ifne, o_iload, o_iret, o_istore]
      try simp +contextual (disch := omega) only [impF, impT, and_true, true_and, implies_true, not_false_eq_true, not_true_eq_false]
      rw [← hQ, fWould, hop, hov]
      exact ⟨rfl, hC, Gx.rf⟩
    · simp only [if_true]
      have hp2 := okP_t hop
      have hv2 := okV_t hov
      obtain ⟨P, rfl⟩ := Int.eq_ofNat_of_zero_le hp2.1
      have hP : P < 8 := by omega
      rw [fWould, hop, hov, Int.toNat_natCast] at hQ
      simp only [Bool.and_self, if_true] at hQ
      refine z_run1 tsX7_wouldChange [] 20 ?_
      simp (maxSteps := 1000000) -implicitDefEqProofs +contextual (disch := omega) only [z_wp_t, z_wp_u, ↓pI_e, ↓pL_e, ↓pO_e, ↓pR_e, ↓p1_I, ↓p1_O, z_gl, z_st1, z_st2, z_nl_I, z_nl_O, z_nl_J, z_nl_L, if_true, if_false, ite_true, ite_false, true_and, and_true, List.mem_cons, List.not_mem_nil, or_false, false_or, or_self, List.length_cons, List.length_nil, InR_t, InL_t, z_ix_t, mI_s1, mI_s2, ↓brT, ↓brF, ↓brT', ↓brF', mL_sI, mR_sI, mK_sI, mS_sI, mI_sL, mL_s1, mL_s2, mR_sL, mK_sL, mS_sL, mI_sR, mL_sR, mR_s1, mR_s2, mK_sR, mS_sR, mA_s1, mA_s2, mL_sA, mR_sA, mK_sA, mS_sA, ix_n, ix_a, ix_m, ix_s, z_sw, z_stop, forall_const, true_implies, false_implies, imp_self, implies_true, not_true_eq_false, not_false_eq_true, ne_eq, eq_self, Option.some.injEq, reduceCtorEq, Nat.reduceAdd, Nat.reduceSub, Nat.reduceMul, Nat.reduceEqDiff, Nat.reduceLT, Nat.reduceLeDiff, Int.reduceAdd, Int.reduceMul, Int.reduceSub, Int.reduceNeg, Int.reduceToNat, Int.reduceLT, Int.reduceLE, Int.reduceEq, ↓reduceIte, List.reverse_cons, Option.toList, List.cons_append, List.nil_append, vI_inj, vL_inj, vO_inj, rI, rL, rO, rV, mI_sQ, mL_sQ, mK_sQ, mS_sQ, mQ_s1, mQ_s2, iL_and, iL_or, iL_xor, iL_shl, iL_ushr, iR_and, iR_or, iR_xor, iR_shl, iR_shr, iR_ushr, iR_cmp, yc0, tlX7_wouldChange, tkX7_wouldChange, o_aload, o_getR, o_goto, o_ic, o_iceq, o_ifeq, o_ifne, o_iload, o_iret, o_istore, v0, v1]
      try simp +contextual (disch := omega) only [impF, impT, and_true, true_and, implies_true, not_false_eq_true, not_true_eq_false]
      refine x_callV (by decide +kernel) cv_X7_86 (sp_hasSolution l G h 1 (sW s) hC.2.1 hA (by omega) 13 (by omega)) hC.2.1.1.1.1 (by omega) rfl (by omega) (by omega) rfl (Nat.le_of_ble_eq_true rfl) ?_
      rintro r h1 ⟨rfl, hK1, h51⟩
      obtain ⟨hC1, hG1⟩ := hC.oc hK1
      obtain ⟨u0, u1, u2, u3, u4, u5, u6⟩ := hC1.1
      have hS1 := hC1.2.1.1.2.1
      cases hb : bestA (sW s) with
      | none =>
        rw [hb] at hQ
        simp only [Option.isSome_none, Bool.false_eq_true, if_false]
        refine z_run1 tsX7_wouldChange [] 20 ?_
        simp (maxSteps := 1000000) -implicitDefEqProofs +contextual (disch := omega) only [z_wp_t, z_wp_u, ↓pI_e, ↓pL_e, ↓pO_e, ↓pR_e, ↓p1_I, ↓p1_O, z_gl, z_st1, z_st2, z_nl_I, z_nl_O, z_nl_J, z_nl_L, if_true, if_false, ite_true, ite_false, true_and, and_true, List.mem_cons, List.not_mem_nil, or_false, false_or, or_self, List.length_cons, List.length_nil, InR_t, InL_t, z_ix_t, mI_s1, mI_s2, ↓brT, ↓brF, ↓brT', ↓brF', mL_sI, mR_sI, mK_sI, mS_sI, mI_sL, mL_s1, mL_s2, mR_sL, mK_sL, mS_sL, mI_sR, mL_sR, mR_s1, mR_s2, mK_sR, mS_sR, mA_s1, mA_s2, mL_sA, mR_sA, mK_sA, mS_sA, ix_n, ix_a, ix_m, ix_s, z_sw, z_stop, forall_const, true_implies, false_implies, imp_self, implies_true, not_true_eq_false, not_false_eq_true, ne_eq, eq_self, Option.some.injEq, reduceCtorEq, Nat.reduceAdd, Nat.reduceSub, Nat.reduceMul, Nat.reduceEqDiff, Nat.reduceLT, Nat.reduceLeDiff, Int.reduceAdd, Int.reduceMul, Int.reduceSub, Int.reduceNeg, Int.reduceToNat, Int.reduceLT, Int.reduceLE, Int.reduceEq, ↓reduceIte, List.reverse_cons, Option.toList, List.cons_append, List.nil_append, vI_inj, vL_inj, vO_inj, rI, rL, rO, rV, mI_sQ, mL_sQ, mK_sQ, mS_sQ, mQ_s1, mQ_s2, iL_and, iL_or, iL_xor, iL_shl, iL_ushr, iR_and, iR_or, iR_xor, iR_shl, iR_shr, iR_ushr, iR_cmp, yc0, tlX7_wouldChange, tkX7_wouldChange, o_aload, o_getR, o_goto, o_ic, o_iceq, o_ifeq, o_ifne, o_iload, o_iret, o_istore]
        try simp +contextual (disch := omega) only [impF, impT, and_true, true_and, implies_true, not_false_eq_true, not_true_eq_false]
        rw [← hQ]
        exact ⟨rfl, hC1, hG1⟩
      | some t =>
        rw [hb] at hQ
        simp only [Option.isSome_some, if_true] at hQ ⊢
        have h4 := hA.1 P hP
        -- behind the trial's change
        have rest : ∀ (h3 : zH) (B : zA), Fr (fun c => 18 ≤ c ∧ c ≤ 22) h1 h3 → StOK h3 18 B → AOK B → cQ h (match bestA B with
            | none => -1
            | some u => (dfN (sW s) B t u : Int), s) = QQ → z_X l G mtX7_wouldChange lv 0 0 (QQ) 0 0 (h3) 103 [vR 0, vI (P : Int), vI v, vJ] [] := by
          intro h3 B f3 hS3 hB hQ
          have w0 : (gK h3 0).1 = 7 := by rw [f3.K]; exact u0
          have w1 : gR h3 0 0 = some 1 := by rw [f3.R (by omega)]; exact u1
          have w3 : gR h3 0 2 = some 17 := by rw [f3.R (by omega)]; exact u3
          have k17 : (gK h3 17).1 = 1 := by rw [f3.K]; exact hC1.2.2.2.1.1.1
          refine z_run1 tsX7_wouldChange [] 20 ?_
          simp (maxSteps := 1000000) -implicitDefEqProofs +contextual (disch := omega) only [z_wp_t, z_wp_u, ↓pI_e, ↓pL_e, ↓pO_e, ↓pR_e, ↓p1_I, ↓p1_O, z_gl, z_st1, z_st2, z_nl_I, z_nl_O, z_nl_J, z_nl_L, if_true, if_false, ite_true, ite_false, true_and, and_true, List.mem_cons, List.not_mem_nil, or_false, false_or, or_self, List.length_cons, List.length_nil, InR_t, InL_t, z_ix_t, mI_s1, mI_s2, ↓brT, ↓brF, ↓brT', ↓brF', mL_sI, mR_sI, mK_sI, mS_sI, mI_sL, mL_s1, mL_s2, mR_sL, mK_sL, mS_sL, mI_sR, mL_sR, mR_s1, mR_s2, mK_sR, mS_sR, mA_s1, mA_s2, mL_sA, mR_sA, mK_sA, mS_sA, ix_n, ix_a, ix_m, ix_s, z_sw, z_stop, forall_const, true_implies, false_implies, imp_self, implies_true, not_true_eq_false, not_false_eq_true, ne_eq, eq_self, Option.some.injEq, reduceCtorEq, Nat.reduceAdd, Nat.reduceSub, Nat.reduceMul, Nat.reduceEqDiff, Nat.reduceLT, Nat.reduceLeDiff, Int.reduceAdd, Int.reduceMul, Int.reduceSub, Int.reduceNeg, Int.reduceToNat, Int.reduceLT, Int.reduceLE, Int.reduceEq, ↓reduceIte, List.reverse_cons, Option.toList, List.cons_append, List.nil_append, vI_inj, vL_inj, vO_inj, rI, rL, rO, rV, mI_sQ, mL_sQ, mK_sQ, mS_sQ, mQ_s1, mQ_s2, iL_and, iL_or, iL_xor, iL_shl, iL_ushr, iR_and, iR_or, iR_xor, iR_shl, iR_shr, iR_ushr, iR_cmp, yc0, tlX7_wouldChange, tkX7_wouldChange, o_aload, o_getR, o_goto, o_ic, o_iceq, o_ifeq, o_ifne, o_iload, o_iret, o_istore, w0, w3]
          try simp +contextual (disch := omega) only [impF, impT, and_true, true_and, implies_true, not_false_eq_true, not_true_eq_false]
          refine x_callV (by decide +kernel) cv_X7_100 (sp_forget l G h3 17 k17 1 (by omega)) k17 (by omega) rfl (by omega) (by omega) rfl (Nat.le_of_ble_eq_true rfl) ?_
          rintro r h' ⟨rfl, hE⟩
          subst h'
          have f4 := fgt_fr h3 17
          have hz := fgt_0 h3 17
          have hR4 : gR (fgt h3 17) = gR h3 := rfl
          generalize fgt h3 17 = h4 at *
          have hO4 : OcOK h4 17 B := by
            refine ⟨⟨(hC1.2.2.2.1.1.fr f3 (by omega) (by omega)).ofR f4.K (by rw [hR4]) (by rw [hR4]), hS3.fr f4 (fun q hq => by omega) (fun q q1 q2 => by omega), (hC1.2.2.2.1.2.2.fr f3 (by omega)).fr f4 (by omega)⟩, Or.inl hz.1, Or.inl hz.2.1, Or.inl hz.2.2.1, Or.inl hz.2.2.2.1, Or.inl hz.2.2.2.2⟩
          have y0 : (gK h4 0).1 = 7 := by rw [f4.K]; exact w0
          have y3 : gR h4 0 2 = some 17 := by rw [hR4]; exact w3
          refine z_run1 tsX7_wouldChange [] 20 ?_
          simp (maxSteps := 1000000) -implicitDefEqProofs +contextual (disch := omega) only [z_wp_t, z_wp_u, ↓pI_e, ↓pL_e, ↓pO_e, ↓pR_e, ↓p1_I, ↓p1_O, z_gl, z_st1, z_st2, z_nl_I, z_nl_O, z_nl_J, z_nl_L, if_true, if_false, ite_true, ite_false, true_and, and_true, List.mem_cons, List.not_mem_nil, or_false, false_or, or_self, List.length_cons, List.length_nil, InR_t, InL_t, z_ix_t, mI_s1, mI_s2, ↓brT, ↓brF, ↓brT', ↓brF', mL_sI, mR_sI, mK_sI, mS_sI, mI_sL, mL_s1, mL_s2, mR_sL, mK_sL, mS_sL, mI_sR, mL_sR, mR_s1, mR_s2, mK_sR, mS_sR, mA_s1, mA_s2, mL_sA, mR_sA, mK_sA, mS_sA, ix_n, ix_a, ix_m, ix_s, z_sw, z_stop, forall_const, true_implies, false_implies, imp_self, implies_true, not_true_eq_false, not_false_eq_true, ne_eq, eq_self, Option.some.injEq, reduceCtorEq, Nat.reduceAdd, Nat.reduceSub, Nat.reduceMul, Nat.reduceEqDiff, Nat.reduceLT, Nat.reduceLeDiff, Int.reduceAdd, Int.reduceMul, Int.reduceSub, Int.reduceNeg, Int.reduceToNat, Int.reduceLT, Int.reduceLE, Int.reduceEq, ↓reduceIte, List.reverse_cons, Option.toList, List.cons_append, List.nil_append, vI_inj, vL_inj, vO_inj, rI, rL, rO, rV, mI_sQ, mL_sQ, mK_sQ, mS_sQ, mQ_s1, mQ_s2, iL_and, iL_or, iL_xor, iL_shl, iL_ushr, iR_and, iR_or, iR_xor, iR_shl, iR_shr, iR_ushr, iR_cmp, yc0, tlX7_wouldChange, tkX7_wouldChange, o_aload, o_getR, o_goto, o_ic, o_iceq, o_ifeq, o_ifne, o_iload, o_iret, o_istore, y0, y3]
          try simp +contextual (disch := omega) only [impF, impT, and_true, true_and, implies_true, not_false_eq_true, not_true_eq_false]
          refine x_callV (by decide +kernel) cv_X7_86 (sp_hasSolution l G h4 17 B hO4 hB (by omega) 13 (by omega)) hO4.1.1.1 (by omega) rfl (by omega) (by omega) rfl (Nat.le_of_ble_eq_true rfl) ?_
          rintro r h5 ⟨rfl, hK5, h55⟩
          have f15 : Fr (fun c => 17 ≤ c ∧ c ≤ 32) h1 h5 := (f3.tr' (U := fun c => 17 ≤ c ∧ c ≤ 32) f4 (fun c q => by omega) (fun c q => by omega)).tr' hK5.1 (fun _ q => q) (fun c q => by unfold OcS at q; omega)
          obtain ⟨hC5, hG5⟩ := hC1.try f15 hK5.2.2.1.1 hK5.2.2.1.2.1.1 hK5.2.2.1.2.2
          have hG := hG1.tr hG5
          obtain ⟨z0, z1, z2, z3, -⟩ := hC5.1
          have h51' : gI h5 1 5 = 1 := by rw [f15.I (by omega)]; exact h51
          cases hb2 : bestA B with
          | none =>
            rw [hb2] at hQ
            simp only [Option.isSome_none, Bool.false_eq_true, if_false]
            refine z_run1 tsX7_wouldChange [] 20 ?_
            simp (maxSteps := 1000000) -implicitDefEqProofs +contextual (disch := omega) only [z_wp_t, z_wp_u, ↓pI_e, ↓pL_e, ↓pO_e, ↓pR_e, ↓p1_I, ↓p1_O, z_gl, z_st1, z_st2, z_nl_I, z_nl_O, z_nl_J, z_nl_L, if_true, if_false, ite_true, ite_false, true_and, and_true, List.mem_cons, List.not_mem_nil, or_false, false_or, or_self, List.length_cons, List.length_nil, InR_t, InL_t, z_ix_t, mI_s1, mI_s2, ↓brT, ↓brF, ↓brT', ↓brF', mL_sI, mR_sI, mK_sI, mS_sI, mI_sL, mL_s1, mL_s2, mR_sL, mK_sL, mS_sL, mI_sR, mL_sR, mR_s1, mR_s2, mK_sR, mS_sR, mA_s1, mA_s2, mL_sA, mR_sA, mK_sA, mS_sA, ix_n, ix_a, ix_m, ix_s, z_sw, z_stop, forall_const, true_implies, false_implies, imp_self, implies_true, not_true_eq_false, not_false_eq_true, ne_eq, eq_self, Option.some.injEq, reduceCtorEq, Nat.reduceAdd, Nat.reduceSub, Nat.reduceMul, Nat.reduceEqDiff, Nat.reduceLT, Nat.reduceLeDiff, Int.reduceAdd, Int.reduceMul, Int.reduceSub, Int.reduceNeg, Int.reduceToNat, Int.reduceLT, Int.reduceLE, Int.reduceEq, ↓reduceIte, List.reverse_cons, Option.toList, List.cons_append, List.nil_append, vI_inj, vL_inj, vO_inj, rI, rL, rO, rV, mI_sQ, mL_sQ, mK_sQ, mS_sQ, mQ_s1, mQ_s2, iL_and, iL_or, iL_xor, iL_shl, iL_ushr, iR_and, iR_or, iR_xor, iR_shl, iR_shr, iR_ushr, iR_cmp, yc0, tlX7_wouldChange, tkX7_wouldChange, o_aload, o_getR, o_goto, o_ic, o_iceq, o_ifeq, o_ifne, o_iload, o_iret, o_istore]
            try simp +contextual (disch := omega) only [impF, impT, and_true, true_and, implies_true, not_false_eq_true, not_true_eq_false]
            rw [← hQ]
            exact ⟨rfl, hC5, hG⟩
          | some u =>
            rw [hb2] at hQ
            simp only [Option.isSome_some, if_true]
            refine z_run1 tsX7_wouldChange [] 20 ?_
            simp (maxSteps := 1000000) -implicitDefEqProofs +contextual (disch := omega) only [z_wp_t, z_wp_u, ↓pI_e, ↓pL_e, ↓pO_e, ↓pR_e, ↓p1_I, ↓p1_O, z_gl, z_st1, z_st2, z_nl_I, z_nl_O, z_nl_J, z_nl_L, if_true, if_false, ite_true, ite_false, true_and, and_true, List.mem_cons, List.not_mem_nil, or_false, false_or, or_self, List.length_cons, List.length_nil, InR_t, InL_t, z_ix_t, mI_s1, mI_s2, ↓brT, ↓brF, ↓brT', ↓brF', mL_sI, mR_sI, mK_sI, mS_sI, mI_sL, mL_s1, mL_s2, mR_sL, mK_sL, mS_sL, mI_sR, mL_sR, mR_s1, mR_s2, mK_sR, mS_sR, mA_s1, mA_s2, mL_sA, mR_sA, mK_sA, mS_sA, ix_n, ix_a, ix_m, ix_s, z_sw, z_stop, forall_const, true_implies, false_implies, imp_self, implies_true, not_true_eq_false, not_false_eq_true, ne_eq, eq_self, Option.some.injEq, reduceCtorEq, Nat.reduceAdd, Nat.reduceSub, Nat.reduceMul, Nat.reduceEqDiff, Nat.reduceLT, Nat.reduceLeDiff, Int.reduceAdd, Int.reduceMul, Int.reduceSub, Int.reduceNeg, Int.reduceToNat, Int.reduceLT, Int.reduceLE, Int.reduceEq, ↓reduceIte, List.reverse_cons, Option.toList, List.cons_append, List.nil_append, vI_inj, vL_inj, vO_inj, rI, rL, rO, rV, mI_sQ, mL_sQ, mK_sQ, mS_sQ, mQ_s1, mQ_s2, iL_and, iL_or, iL_xor, iL_shl, iL_ushr, iR_and, iR_or, iR_xor, iR_shl, iR_shr, iR_ushr, iR_cmp, yc0, tlX7_wouldChange, tkX7_wouldChange, o_aload, o_getR, o_goto, o_ic, o_iceq, o_ifeq, o_ifne, o_iload, o_iret, o_istore, z0, z1, z3]
            try simp +contextual (disch := omega) only [impF, impT, and_true, true_and, implies_true, not_false_eq_true, not_true_eq_false]
            refine x_callV (by decide +kernel) cv_X7_209 (sp_differences l G h5 1 17 (sW s) B t u hC5.2.1 hA h51' hb hK5.2.2 hB h55 hb2 4 (by omega)) hC5.2.1.1.1.1 (by omega) rfl (by omega) (by omega) rfl (Nat.le_of_ble_eq_true rfl) ?_
            rintro r h' ⟨rfl, hE⟩
            subst h'
            refine z_run1 tsX7_wouldChange [] 20 ?_
            simp (maxSteps := 1000000) -implicitDefEqProofs +contextual (disch := omega) only [z_wp_t, z_wp_u, ↓pI_e, ↓pL_e, ↓pO_e, ↓pR_e, ↓p1_I, ↓p1_O, z_gl, z_st1, z_st2, z_nl_I, z_nl_O, z_nl_J, z_nl_L, if_true, if_false, ite_true, ite_false, true_and, and_true, List.mem_cons, List.not_mem_nil, or_false, false_or, or_self, List.length_cons, List.length_nil, InR_t, InL_t, z_ix_t, mI_s1, mI_s2, ↓brT, ↓brF, ↓brT', ↓brF', mL_sI, mR_sI, mK_sI, mS_sI, mI_sL, mL_s1, mL_s2, mR_sL, mK_sL, mS_sL, mI_sR, mL_sR, mR_s1, mR_s2, mK_sR, mS_sR, mA_s1, mA_s2, mL_sA, mR_sA, mK_sA, mS_sA, ix_n, ix_a, ix_m, ix_s, z_sw, z_stop, forall_const, true_implies, false_implies, imp_self, implies_true, not_true_eq_false, not_false_eq_true, ne_eq, eq_self, Option.some.injEq, reduceCtorEq, Nat.reduceAdd, Nat.reduceSub, Nat.reduceMul, Nat.reduceEqDiff, Nat.reduceLT, Nat.reduceLeDiff, Int.reduceAdd, Int.reduceMul, Int.reduceSub, Int.reduceNeg, Int.reduceToNat, Int.reduceLT, Int.reduceLE, Int.reduceEq, ↓reduceIte, List.reverse_cons, Option.toList, List.cons_append, List.nil_append, vI_inj, vL_inj, vO_inj, rI, rL, rO, rV, mI_sQ, mL_sQ, mK_sQ, mS_sQ, mQ_s1, mQ_s2, iL_and, iL_or, iL_xor, iL_shl, iL_ushr, iR_and, iR_or, iR_xor, iR_shl, iR_shr, iR_ushr, iR_cmp, yc0, tlX7_wouldChange, tkX7_wouldChange, o_aload, o_getR, o_goto, o_ic, o_iceq, o_ifeq, o_ifne, o_iload, o_iret, o_istore]
            try simp +contextual (disch := omega) only [impF, impT, and_true, true_and, implies_true, not_false_eq_true, not_true_eq_false]
            rw [← hQ]
            exact ⟨rfl, hC5, hG⟩
        refine z_run1 tsX7_wouldChange [] 20 ?_
        simp (maxSteps := 1000000) -implicitDefEqProofs +contextual (disch := omega) only [z_wp_t, z_wp_u, ↓pI_e, ↓pL_e, ↓pO_e, ↓pR_e, ↓p1_I, ↓p1_O, z_gl, z_st1, z_st2, z_nl_I, z_nl_O, z_nl_J, z_nl_L, if_true, if_false, ite_true, ite_false, true_and, and_true, List.mem_cons, List.not_mem_nil, or_false, false_or, or_self, List.length_cons, List.length_nil, InR_t, InL_t, z_ix_t, mI_s1, mI_s2, ↓brT, ↓brF, ↓brT', ↓brF', mL_sI, mR_sI, mK_sI, mS_sI, mI_sL, mL_s1, mL_s2, mR_sL, mK_sL, mS_sL, mI_sR, mL_sR, mR_s1, mR_s2, mK_sR, mS_sR, mA_s1, mA_s2, mL_sA, mR_sA, mK_sA, mS_sA, ix_n, ix_a, ix_m, ix_s, z_sw, z_stop, forall_const, true_implies, false_implies, imp_self, implies_true, not_true_eq_false, not_false_eq_true, ne_eq, eq_self, Option.some.injEq, reduceCtorEq, Nat.reduceAdd, Nat.reduceSub, Nat.reduceMul, Nat.reduceEqDiff, Nat.reduceLT, Nat.reduceLeDiff, Int.reduceAdd, Int.reduceMul, Int.reduceSub, Int.reduceNeg, Int.reduceToNat, Int.reduceLT, Int.reduceLE, Int.reduceEq, ↓reduceIte, List.reverse_cons, Option.toList, List.cons_append, List.nil_append, vI_inj, vL_inj, vO_inj, rI, rL, rO, rV, mI_sQ, mL_sQ, mK_sQ, mS_sQ, mQ_s1, mQ_s2, iL_and, iL_or, iL_xor, iL_shl, iL_ushr, iR_and, iR_or, iR_xor, iR_shl, iR_shr, iR_ushr, iR_cmp, yc0, tlX7_wouldChange, tkX7_wouldChange, o_aload, o_getR, o_goto, o_ic, o_iceq, o_ifeq, o_ifne, o_iload, o_iret, o_istore, u0, u2]
        try simp +contextual (disch := omega) only [impF, impT, and_true, true_and, implies_true, not_false_eq_true, not_true_eq_false]
        refine x_callV (by decide +kernel) cv_X7_50 (sp_placeOf l G h1 2 P v (sW s) hS1 hA hP hv 2 (by omega)) hS1.1.1 (by omega) rfl (by omega) (by omega) rfl (Nat.le_of_ble_eq_true rfl) ?_
        rintro r h' ⟨rfl, hE⟩
        subst h'
        by_cases hf : fIx (aV (sW s) P) v (aN (sW s) P) 0 = -1
        · rw [hf]
          refine z_run1 tsX7_wouldChange [] 20 ?_
          simp (maxSteps := 1000000) -implicitDefEqProofs +contextual (disch := omega) only [z_wp_t, z_wp_u, ↓pI_e, ↓pL_e, ↓pO_e, ↓pR_e, ↓p1_I, ↓p1_O, z_gl, z_st1, z_st2, z_nl_I, z_nl_O, z_nl_J, z_nl_L, if_true, if_false, ite_true, ite_false, true_and, and_true, List.mem_cons, List.not_mem_nil, or_false, false_or, or_self, List.length_cons, List.length_nil, InR_t, InL_t, z_ix_t, mI_s1, mI_s2, ↓brT, ↓brF, ↓brT', ↓brF', mL_sI, mR_sI, mK_sI, mS_sI, mI_sL, mL_s1, mL_s2, mR_sL, mK_sL, mS_sL, mI_sR, mL_sR, mR_s1, mR_s2, mK_sR, mS_sR, mA_s1, mA_s2, mL_sA, mR_sA, mK_sA, mS_sA, ix_n, ix_a, ix_m, ix_s, z_sw, z_stop, forall_const, true_implies, false_implies, imp_self, implies_true, not_true_eq_false, not_false_eq_true, ne_eq, eq_self, Option.some.injEq, reduceCtorEq, Nat.reduceAdd, Nat.reduceSub, Nat.reduceMul, Nat.reduceEqDiff, Nat.reduceLT, Nat.reduceLeDiff, Int.reduceAdd, Int.reduceMul, Int.reduceSub, Int.reduceNeg, Int.reduceToNat, Int.reduceLT, Int.reduceLE, Int.reduceEq, ↓reduceIte, List.reverse_cons, Option.toList, List.cons_append, List.nil_append, vI_inj, vL_inj, vO_inj, rI, rL, rO, rV, mI_sQ, mL_sQ, mK_sQ, mS_sQ, mQ_s1, mQ_s2, iL_and, iL_or, iL_xor, iL_shl, iL_ushr, iR_and, iR_or, iR_xor, iR_shl, iR_shr, iR_ushr, iR_cmp, yc0, tlX7_wouldChange, tkX7_wouldChange, o_aload, o_getR, o_goto, o_ic, o_iceq, o_ifeq, o_ifne, o_iload, o_iret, o_istore, u0, u2]
          try simp +contextual (disch := omega) only [impF, impT, and_true, true_and, implies_true, not_false_eq_true, not_true_eq_false]
          refine x_callV (by decide +kernel) cv_X7_56 (sp_isFullAt l G h1 2 P (sW s) hS1 hA hP 3 (by omega)) hS1.1.1 (by omega) rfl (by omega) (by omega) rfl (Nat.le_of_ble_eq_true rfl) ?_
          rintro r h' ⟨rfl, hE⟩
          subst h'
          by_cases h44 : 4 ≤ aN (sW s) P
          · rw [if_pos ⟨hf, h44⟩] at hQ
            rw [if_pos h44]
            refine z_run1 tsX7_wouldChange [] 20 ?_
            simp (maxSteps := 1000000) -implicitDefEqProofs +contextual (disch := omega) only [z_wp_t, z_wp_u, ↓pI_e, ↓pL_e, ↓pO_e, ↓pR_e, ↓p1_I, ↓p1_O, z_gl, z_st1, z_st2, z_nl_I, z_nl_O, z_nl_J, z_nl_L, if_true, if_false, ite_true, ite_false, true_and, and_true, List.mem_cons, List.not_mem_nil, or_false, false_or, or_self, List.length_cons, List.length_nil, InR_t, InL_t, z_ix_t, mI_s1, mI_s2, ↓brT, ↓brF, ↓brT', ↓brF', mL_sI, mR_sI, mK_sI, mS_sI, mI_sL, mL_s1, mL_s2, mR_sL, mK_sL, mS_sL, mI_sR, mL_sR, mR_s1, mR_s2, mK_sR, mS_sR, mA_s1, mA_s2, mL_sA, mR_sA, mK_sA, mS_sA, ix_n, ix_a, ix_m, ix_s, z_sw, z_stop, forall_const, true_implies, false_implies, imp_self, implies_true, not_true_eq_false, not_false_eq_true, ne_eq, eq_self, Option.some.injEq, reduceCtorEq, Nat.reduceAdd, Nat.reduceSub, Nat.reduceMul, Nat.reduceEqDiff, Nat.reduceLT, Nat.reduceLeDiff, Int.reduceAdd, Int.reduceMul, Int.reduceSub, Int.reduceNeg, Int.reduceToNat, Int.reduceLT, Int.reduceLE, Int.reduceEq, ↓reduceIte, List.reverse_cons, Option.toList, List.cons_append, List.nil_append, vI_inj, vL_inj, vO_inj, rI, rL, rO, rV, mI_sQ, mL_sQ, mK_sQ, mS_sQ, mQ_s1, mQ_s2, iL_and, iL_or, iL_xor, iL_shl, iL_ushr, iR_and, iR_or, iR_xor, iR_shl, iR_shr, iR_ushr, iR_cmp, yc0, tlX7_wouldChange, tkX7_wouldChange, o_aload, o_getR, o_goto, o_ic, o_iceq, o_ifeq, o_ifne, o_iload, o_iret, o_istore]
            try simp +contextual (disch := omega) only [impF, impT, and_true, true_and, implies_true, not_false_eq_true, not_true_eq_false]
            rw [← hQ]
            exact ⟨rfl, hC1, hG1⟩
          · rw [if_neg (fun q => h44 q.2)] at hQ
            have hch : chA (sW s) P v = insA (sW s) P v := if_pos hf
            rw [hch] at hQ
            rw [if_neg h44]
            refine z_run1 tsX7_wouldChange [] 20 ?_
            simp (maxSteps := 1000000) -implicitDefEqProofs +contextual (disch := omega) only [z_wp_t, z_wp_u, ↓pI_e, ↓pL_e, ↓pO_e, ↓pR_e, ↓p1_I, ↓p1_O, z_gl, z_st1, z_st2, z_nl_I, z_nl_O, z_nl_J, z_nl_L, if_true, if_false, ite_true, ite_false, true_and, and_true, List.mem_cons, List.not_mem_nil, or_false, false_or, or_self, List.length_cons, List.length_nil, InR_t, InL_t, z_ix_t, mI_s1, mI_s2, ↓brT, ↓brF, ↓brT', ↓brF', mL_sI, mR_sI, mK_sI, mS_sI, mI_sL, mL_s1, mL_s2, mR_sL, mK_sL, mS_sL, mI_sR, mL_sR, mR_s1, mR_s2, mK_sR, mS_sR, mA_s1, mA_s2, mL_sA, mR_sA, mK_sA, mS_sA, ix_n, ix_a, ix_m, ix_s, z_sw, z_stop, forall_const, true_implies, false_implies, imp_self, implies_true, not_true_eq_false, not_false_eq_true, ne_eq, eq_self, Option.some.injEq, reduceCtorEq, Nat.reduceAdd, Nat.reduceSub, Nat.reduceMul, Nat.reduceEqDiff, Nat.reduceLT, Nat.reduceLeDiff, Int.reduceAdd, Int.reduceMul, Int.reduceSub, Int.reduceNeg, Int.reduceToNat, Int.reduceLT, Int.reduceLE, Int.reduceEq, ↓reduceIte, List.reverse_cons, Option.toList, List.cons_append, List.nil_append, vI_inj, vL_inj, vO_inj, rI, rL, rO, rV, mI_sQ, mL_sQ, mK_sQ, mS_sQ, mQ_s1, mQ_s2, iL_and, iL_or, iL_xor, iL_shl, iL_ushr, iR_and, iR_or, iR_xor, iR_shl, iR_shr, iR_ushr, iR_cmp, yc0, tlX7_wouldChange, tkX7_wouldChange, o_aload, o_getR, o_goto, o_ic, o_iceq, o_ifeq, o_ifne, o_iload, o_iret, o_istore, u0, u2, u4]
            try simp +contextual (disch := omega) only [impF, impT, and_true, true_and, implies_true, not_false_eq_true, not_true_eq_false]
            refine x_callV (by decide +kernel) cv_X7_206 (sp_copyFrom l G h1 18 2 (sW s) hC1.2.2.2.1.2.1 hS1 hA (by omega) (by omega) 1 (by omega)) hC1.2.2.2.1.2.1.1 (by omega) rfl (by omega) (by omega) rfl (Nat.le_of_ble_eq_true rfl) ?_
            rintro r h2 ⟨rfl, f2, hS2⟩
            have w0 : (gK h2 0).1 = 7 := by rw [f2.K]; exact u0
            have w4 : gR h2 0 3 = some 18 := by rw [f2.R (by omega)]; exact u4
            refine z_run1 tsX7_wouldChange [] 20 ?_
            simp (maxSteps := 1000000) -implicitDefEqProofs +contextual (disch := omega) only [z_wp_t, z_wp_u, ↓pI_e, ↓pL_e, ↓pO_e, ↓pR_e, ↓p1_I, ↓p1_O, z_gl, z_st1, z_st2, z_nl_I, z_nl_O, z_nl_J, z_nl_L, if_true, if_false, ite_true, ite_false, true_and, and_true, List.mem_cons, List.not_mem_nil, or_false, false_or, or_self, List.length_cons, List.length_nil, InR_t, InL_t, z_ix_t, mI_s1, mI_s2, ↓brT, ↓brF, ↓brT', ↓brF', mL_sI, mR_sI, mK_sI, mS_sI, mI_sL, mL_s1, mL_s2, mR_sL, mK_sL, mS_sL, mI_sR, mL_sR, mR_s1, mR_s2, mK_sR, mS_sR, mA_s1, mA_s2, mL_sA, mR_sA, mK_sA, mS_sA, ix_n, ix_a, ix_m, ix_s, z_sw, z_stop, forall_const, true_implies, false_implies, imp_self, implies_true, not_true_eq_false, not_false_eq_true, ne_eq, eq_self, Option.some.injEq, reduceCtorEq, Nat.reduceAdd, Nat.reduceSub, Nat.reduceMul, Nat.reduceEqDiff, Nat.reduceLT, Nat.reduceLeDiff, Int.reduceAdd, Int.reduceMul, Int.reduceSub, Int.reduceNeg, Int.reduceToNat, Int.reduceLT, Int.reduceLE, Int.reduceEq, ↓reduceIte, List.reverse_cons, Option.toList, List.cons_append, List.nil_append, vI_inj, vL_inj, vO_inj, rI, rL, rO, rV, mI_sQ, mL_sQ, mK_sQ, mS_sQ, mQ_s1, mQ_s2, iL_and, iL_or, iL_xor, iL_shl, iL_ushr, iR_and, iR_or, iR_xor, iR_shl, iR_shr, iR_ushr, iR_cmp, yc0, tlX7_wouldChange, tkX7_wouldChange, o_aload, o_getR, o_goto, o_ic, o_iceq, o_ifeq, o_ifne, o_iload, o_iret, o_istore, w0, w4]
            try simp +contextual (disch := omega) only [impF, impT, and_true, true_and, implies_true, not_false_eq_true, not_true_eq_false]
            refine x_callV (by decide +kernel) cv_X7_62 (sp_insertVersion l G h2 18 P v (sW s) hS2 hA hP hv (by omega) (by omega) 4 (by omega)) hS2.1.1 (by omega) rfl (by omega) (by omega) rfl (Nat.le_of_ble_eq_true rfl) ?_
            rintro r h3 ⟨rfl, f3, hS3⟩
            have hr := rest h3 _ (f2.tr' f3 (fun c q => by omega) (fun c q => by omega)) hS3 (insA_ok hA hP hv2 (by omega) hf) hQ
            refine x_wk [vR 0, vI (P : Int), vI v, vJ] (by simp [z_wk]) ?_
            exact hr
        · obtain ⟨g1, g2, g3⟩ := fIx_some rfl hf
          obtain ⟨j, hj⟩ := Int.eq_ofNat_of_zero_le (a := fIx (aV (sW s) P) v (aN (sW s) P) 0) (by omega)
          rw [if_neg (fun q => hf q.1)] at hQ
          have hch : chA (sW s) P v = remA (sW s) P j := by unfold chA; rw [if_neg hf, hj, Int.toNat_natCast]
          rw [hch] at hQ
          rw [hj]
          refine z_run1 tsX7_wouldChange [] 20 ?_
          simp (maxSteps := 1000000) -implicitDefEqProofs +contextual (disch := omega) only [z_wp_t, z_wp_u, ↓pI_e, ↓pL_e, ↓pO_e, ↓pR_e, ↓p1_I, ↓p1_O, z_gl, z_st1, z_st2, z_nl_I, z_nl_O, z_nl_J, z_nl_L, if_true, if_false, ite_true, ite_false, true_and, and_true, List.mem_cons, List.not_mem_nil, or_false, false_or, or_self, List.length_cons, List.length_nil, InR_t, InL_t, z_ix_t, mI_s1, mI_s2, ↓brT, ↓brF, ↓brT', ↓brF', mL_sI, mR_sI, mK_sI, mS_sI, mI_sL, mL_s1, mL_s2, mR_sL, mK_sL, mS_sL, mI_sR, mL_sR, mR_s1, mR_s2, mK_sR, mS_sR, mA_s1, mA_s2, mL_sA, mR_sA, mK_sA, mS_sA, ix_n, ix_a, ix_m, ix_s, z_sw, z_stop, forall_const, true_implies, false_implies, imp_self, implies_true, not_true_eq_false, not_false_eq_true, ne_eq, eq_self, Option.some.injEq, reduceCtorEq, Nat.reduceAdd, Nat.reduceSub, Nat.reduceMul, Nat.reduceEqDiff, Nat.reduceLT, Nat.reduceLeDiff, Int.reduceAdd, Int.reduceMul, Int.reduceSub, Int.reduceNeg, Int.reduceToNat, Int.reduceLT, Int.reduceLE, Int.reduceEq, ↓reduceIte, List.reverse_cons, Option.toList, List.cons_append, List.nil_append, vI_inj, vL_inj, vO_inj, rI, rL, rO, rV, mI_sQ, mL_sQ, mK_sQ, mS_sQ, mQ_s1, mQ_s2, iL_and, iL_or, iL_xor, iL_shl, iL_ushr, iR_and, iR_or, iR_xor, iR_shl, iR_shr, iR_ushr, iR_cmp, yc0, tlX7_wouldChange, tkX7_wouldChange, o_aload, o_getR, o_goto, o_ic, o_iceq, o_ifeq, o_ifne, o_iload, o_iret, o_istore, u0, u2, u4]
          try simp +contextual (disch := omega) only [impF, impT, and_true, true_and, implies_true, not_false_eq_true, not_true_eq_false]
          refine x_callV (by decide +kernel) cv_X7_206 (sp_copyFrom l G h1 18 2 (sW s) hC1.2.2.2.1.2.1 hS1 hA (by omega) (by omega) 1 (by omega)) hC1.2.2.2.1.2.1.1 (by omega) rfl (by omega) (by omega) rfl (Nat.le_of_ble_eq_true rfl) ?_
          rintro r h2 ⟨rfl, f2, hS2⟩
          have w0 : (gK h2 0).1 = 7 := by rw [f2.K]; exact u0
          have w4 : gR h2 0 3 = some 18 := by rw [f2.R (by omega)]; exact u4
          refine z_run1 tsX7_wouldChange [] 20 ?_
          simp (maxSteps := 1000000) -implicitDefEqProofs +contextual (disch := omega) only [z_wp_t, z_wp_u, ↓pI_e, ↓pL_e, ↓pO_e, ↓pR_e, ↓p1_I, ↓p1_O, z_gl, z_st1, z_st2, z_nl_I, z_nl_O, z_nl_J, z_nl_L, if_true, if_false, ite_true, ite_false, true_and, and_true, List.mem_cons, List.not_mem_nil, or_false, false_or, or_self, List.length_cons, List.length_nil, InR_t, InL_t, z_ix_t, mI_s1, mI_s2, ↓brT, ↓brF, ↓brT', ↓brF', mL_sI, mR_sI, mK_sI, mS_sI, mI_sL, mL_s1, mL_s2, mR_sL, mK_sL, mS_sL, mI_sR, mL_sR, mR_s1, mR_s2, mK_sR, mS_sR, mA_s1, mA_s2, mL_sA, mR_sA, mK_sA, mS_sA, ix_n, ix_a, ix_m, ix_s, z_sw, z_stop, forall_const, true_implies, false_implies, imp_self, implies_true, not_true_eq_false, not_false_eq_true, ne_eq, eq_self, Option.some.injEq, reduceCtorEq, Nat.reduceAdd, Nat.reduceSub, Nat.reduceMul, Nat.reduceEqDiff, Nat.reduceLT, Nat.reduceLeDiff, Int.reduceAdd, Int.reduceMul, Int.reduceSub, Int.reduceNeg, Int.reduceToNat, Int.reduceLT, Int.reduceLE, Int.reduceEq, ↓reduceIte, List.reverse_cons, Option.toList, List.cons_append, List.nil_append, vI_inj, vL_inj, vO_inj, rI, rL, rO, rV, mI_sQ, mL_sQ, mK_sQ, mS_sQ, mQ_s1, mQ_s2, iL_and, iL_or, iL_xor, iL_shl, iL_ushr, iR_and, iR_or, iR_xor, iR_shl, iR_shr, iR_ushr, iR_cmp, yc0, tlX7_wouldChange, tkX7_wouldChange, o_aload, o_getR, o_goto, o_ic, o_iceq, o_ifeq, o_ifne, o_iload, o_iret, o_istore, w0, w4]
          try simp +contextual (disch := omega) only [impF, impT, and_true, true_and, implies_true, not_false_eq_true, not_true_eq_false]
          refine x_callV (by decide +kernel) cv_X7_70 (sp_removeVersion l G h2 18 P j v (sW s) hS2 hA hP hv hj (by omega) (by omega) 3 (by omega)) hS2.1.1 (by omega) rfl (by omega) (by omega) rfl (Nat.le_of_ble_eq_true rfl) ?_
          rintro r h3 ⟨rfl, f3, hS3⟩
          have hr := rest h3 _ (f2.tr' f3 (fun c q => by omega) (fun c q => by omega)) hS3 (remA_ok hA hP (by omega)) hQ
          refine z_run1 tsX7_wouldChange [103] 20 ?_
          simp (maxSteps := 1000000) -implicitDefEqProofs +contextual (disch := omega) only [z_wp_t, z_wp_u, ↓pI_e, ↓pL_e, ↓pO_e, ↓pR_e, ↓p1_I, ↓p1_O, z_gl, z_st1, z_st2, z_nl_I, z_nl_O, z_nl_J, z_nl_L, if_true, if_false, ite_true, ite_false, true_and, and_true, List.mem_cons, List.not_mem_nil, or_false, false_or, or_self, List.length_cons, List.length_nil, InR_t, InL_t, z_ix_t, mI_s1, mI_s2, ↓brT, ↓brF, ↓brT', ↓brF', mL_sI, mR_sI, mK_sI, mS_sI, mI_sL, mL_s1, mL_s2, mR_sL, mK_sL, mS_sL, mI_sR, mL_sR, mR_s1, mR_s2, mK_sR, mS_sR, mA_s1, mA_s2, mL_sA, mR_sA, mK_sA, mS_sA, ix_n, ix_a, ix_m, ix_s, z_sw, z_stop, forall_const, true_implies, false_implies, imp_self, implies_true, not_true_eq_false, not_false_eq_true, ne_eq, eq_self, Option.some.injEq, reduceCtorEq, Nat.reduceAdd, Nat.reduceSub, Nat.reduceMul, Nat.reduceEqDiff, Nat.reduceLT, Nat.reduceLeDiff, Int.reduceAdd, Int.reduceMul, Int.reduceSub, Int.reduceNeg, Int.reduceToNat, Int.reduceLT, Int.reduceLE, Int.reduceEq, ↓reduceIte, List.reverse_cons, Option.toList, List.cons_append, List.nil_append, vI_inj, vL_inj, vO_inj, rI, rL, rO, rV, mI_sQ, mL_sQ, mK_sQ, mS_sQ, mQ_s1, mQ_s2, iL_and, iL_or, iL_xor, iL_shl, iL_ushr, iR_and, iR_or, iR_xor, iR_shl, iR_shr, iR_ushr, iR_cmp, yc0, tlX7_wouldChange, tkX7_wouldChange, o_aload, o_getR, o_goto, o_ic, o_iceq, o_ifeq, o_ifne, o_iload, o_iret, o_istore]
          try simp +contextual (disch := omega) only [impF, impT, and_true, true_and, implies_true, not_false_eq_true, not_true_eq_false]
          refine x_wk [vR 0, vI (P : Int), vI v, vJ] (by simp [z_wk]) ?_
          exact hr
