/-! the reference: reads, fault, contains, add -/
def rrP (t : Nat → Int) (n : Nat) (h' : zH) : Prop := match rdRule t n with
  | .inl j => gI h' 93 8 = (j : Int)
  | .inr d => gI h' 93 8 = -1 ∧ MRu (gI h' 97) (mkR d)
theorem rrP_A {t : Nat → Int} {n j : Nat} {h' : zH} (hA : rdA t n = .inl j) (h : gI h' 93 8 = (j : Int)) : rrP t n h' := by
  unfold rrP rdRule
  rw [hA]
  exact h
theorem rrP_B {t : Nat → Int} {n j : Nat} {h' : zH} {a : Int × Nat} (hA : rdA t n = .inr a) (hB : rdB t n a.2 = .inl j) (h : gI h' 93 8 = (j : Int)) : rrP t n h' := by
  unfold rrP rdRule
  rw [hA]
  simp only [hB]
  exact h
theorem rrP_C {t : Nat → Int} {n : Nat} {h h' : zH} {a : Int × Nat} {b : Int × Nat × List (Int × Int)} (hA : rdA t n = .inr a) (hB : rdB t n a.2 = .inr b) (e0 : gI h 97 0 = a.1) (e1 : gI h 97 1 = b.1) (eb : b.1 ≠ -1 → bts h 4 b.2.2) (hp : rcP h (rdC t n b.2.1) h') : rrP t n h' := by
  unfold rrP rdRule
  rw [hA]
  simp only [hB]
  cases hC : rdC t n b.2.1 with
  | inl j =>
    rw [hC] at hp
    exact hp
  | inr c =>
    rw [hC] at hp
    obtain ⟨p1, p2, p3, p4, p5⟩ := hp
    refine ⟨p1, ?_, ?_, p3, p2, fun hc v hv => ?_, fun v hv => p4 v hv⟩
    · rw [p5 0 (by omega) (by omega) (by omega)]
      exact e0
    · rw [p5 1 (by omega) (by omega) (by omega)]
      exact e1
    · rw [p5 _ (by omega) (by omega) (by omega)]
      exact eb hc v hv
theorem rd_26 (l : Launch) (G : zG) (h : zH) (QQ : Option zV → zH → Prop) (t : Nat → Int) (n : Nat) (b : Int) (hR : RS h t n (sk t n 0) (-1)) (lv : Nat) (hlv : 6 ≤ lv) (K : ∀ h', RK h h' → rrP t n h' → QQ none h') : z_X l G mtX8_reads lv 0 0 (QQ) 0 0 (h) 26 [vR 93, vI b] [] := by
  have c0 := hR.1.1
  have hft := sm_feature l G h t n hR 3 (by omega)
  refine z_run1 tsX8_reads [] 20 ?_
  simp (maxSteps := 1000000) -implicitDefEqProofs +contextual (disch := omega) only [z_wp_t, z_wp_u, ↓pI_e, ↓pL_e, ↓pO_e, ↓pR_e, ↓p1_I, ↓p1_O, z_gl, z_st1, z_st2, z_nl_I, z_nl_O, z_nl_J, z_nl_L, if_true, if_false, ite_true, ite_false, true_and, and_true, List.mem_cons, List.not_mem_nil, or_false, false_or, or_self, List.length_cons, List.length_nil, InR_t, InL_t, z_ix_t, mI_s1, mI_s2, ↓brT, ↓brF, ↓brT', ↓brF', mL_sI, mR_sI, mK_sI, mS_sI, mI_sL, mL_s1, mL_s2, mR_sL, mK_sL, mS_sL, mI_sR, mL_sR, mR_s1, mR_s2, mK_sR, mS_sR, mA_s1, mA_s2, mL_sA, mR_sA, mK_sA, mS_sA, ix_n, ix_a, ix_m, ix_s, z_sw, z_stop, forall_const, true_implies, false_implies, imp_self, implies_true, not_true_eq_false, not_false_eq_true, ne_eq, eq_self, Option.some.injEq, reduceCtorEq, Nat.reduceAdd, Nat.reduceSub, Nat.reduceMul, Nat.reduceEqDiff, Nat.reduceLT, Nat.reduceLeDiff, Int.reduceAdd, Int.reduceMul, Int.reduceSub, Int.reduceNeg, Int.reduceToNat, Int.reduceLT, Int.reduceLE, Int.reduceEq, ↓reduceIte, List.reverse_cons, Option.toList, List.cons_append, List.nil_append, vI_inj, vL_inj, vO_inj, rI, rL, rO, rV, mI_sQ, mL_sQ, mK_sQ, mS_sQ, mQ_s1, mQ_s2, iL_and, iL_or, iL_xor, iL_shl, iL_ushr, iR_and, iR_or, iR_xor, iR_shl, iR_shr, iR_ushr, iR_cmp, yc0, tlX8_reads, tkX8_reads, o_aload, o_getI, o_getR, o_goto, o_iald, o_iast, o_ic, o_iceq, o_icge, o_icne, o_ifeq, o_iload, o_putI, o_vret]
  try simp +contextual (disch := omega) only [impF, impT, and_true, true_and, implies_true, not_false_eq_true, not_true_eq_false]
  refine x_callV (by decide +kernel) cv_X8_125 (hft) c0 (by omega) rfl (by omega) (by omega) rfl (Nat.le_of_ble_eq_true rfl) ?_
  rintro r h1 ⟨rfl, hK1, hq⟩
  cases hA : rdA t n with
  | inl j =>
    rw [hA] at hq
    have hR1 : RS h1 t n j (j : Int) := hq
    have c1 := hR1.1.1
    have c97 := hR1.1.2.1.2.2.2.1
    have s5 := hR1.1.2.2.2.1.2.2.2.1
    have e8 := hR1.2.2.2.2.1
    have hj := hR1.2.2.2.2.2
    have hnx := rd_77F l G _ QQ t n j (j : Int) b (hR1.s 1 (-1)) (by omega) lv hlv (fun h' k1 k2 => K h' ((hK1.tr RK.s).tr k1) (rrP_A hA k2))
    clear K hq hR1
    refine z_run1 tsX8_reads [77] 30 ?_
    simp (maxSteps := 1000000) -implicitDefEqProofs +contextual (disch := omega) only [z_wp_t, z_wp_u, ↓pI_e, ↓pL_e, ↓pO_e, ↓pR_e, ↓p1_I, ↓p1_O, z_gl, z_st1, z_st2, z_nl_I, z_nl_O, z_nl_J, z_nl_L, if_true, if_false, ite_true, ite_false, true_and, and_true, List.mem_cons, List.not_mem_nil, or_false, false_or, or_self, List.length_cons, List.length_nil, InR_t, InL_t, z_ix_t, mI_s1, mI_s2, ↓brT, ↓brF, ↓brT', ↓brF', mL_sI, mR_sI, mK_sI, mS_sI, mI_sL, mL_s1, mL_s2, mR_sL, mK_sL, mS_sL, mI_sR, mL_sR, mR_s1, mR_s2, mK_sR, mS_sR, mA_s1, mA_s2, mL_sA, mR_sA, mK_sA, mS_sA, ix_n, ix_a, ix_m, ix_s, z_sw, z_stop, forall_const, true_implies, false_implies, imp_self, implies_true, not_true_eq_false, not_false_eq_true, ne_eq, eq_self, Option.some.injEq, reduceCtorEq, Nat.reduceAdd, Nat.reduceSub, Nat.reduceMul, Nat.reduceEqDiff, Nat.reduceLT, Nat.reduceLeDiff, Int.reduceAdd, Int.reduceMul, Int.reduceSub, Int.reduceNeg, Int.reduceToNat, Int.reduceLT, Int.reduceLE, Int.reduceEq, ↓reduceIte, List.reverse_cons, Option.toList, List.cons_append, List.nil_append, vI_inj, vL_inj, vO_inj, rI, rL, rO, rV, mI_sQ, mL_sQ, mK_sQ, mS_sQ, mQ_s1, mQ_s2, iL_and, iL_or, iL_xor, iL_shl, iL_ushr, iR_and, iR_or, iR_xor, iR_shl, iR_shr, iR_ushr, iR_cmp, yc0, tlX8_reads, tkX8_reads, o_aload, o_getI, o_getR, o_goto, o_iald, o_iast, o_ic, o_iceq, o_icge, o_icne, o_ifeq, o_iload, o_putI, o_vret, c1, c97, s5, e8]
    try simp +contextual (disch := omega) only [impF, impT, and_true, true_and, implies_true, not_false_eq_true, not_true_eq_false]
    exact hnx
  | inr a =>
    rw [hA] at hq
    obtain ⟨hR1, e0⟩ := hq
    obtain ⟨av, i⟩ := a
    have hR1 : RS h1 t n i (-1) := hR1
    have e0 : gI h1 97 0 = av := e0
    have c1 := hR1.1.1
    have c97 := hR1.1.2.1.2.2.2.1
    have s5 := hR1.1.2.2.2.1.2.2.2.1
    have e8 := hR1.2.2.2.2.1
    have hR2 := hR1.s 1 (-1)
    have hK2 : RK h (sI h1 97 1 (-1)) := hK1.tr RK.s
    have e02 : gI (sI h1 97 1 (-1)) 97 0 = av := by rw [mI_s2 _ _ (Or.inr (by omega))]; exact e0
    have e12 : gI (sI h1 97 1 (-1)) 97 1 = -1 := mI_s1 _ _ _ _
    have step : z_X l G mtX8_reads lv 0 0 (QQ) 0 0 (sI h1 97 1 (-1)) 37 [vR 93, vI b] [] := by
      generalize sI h1 97 1 (-1) = h2 at *
      have c2 := hR2.1.1
      have d97 := hR2.1.2.1.2.2.2.1
      have t5 := hR2.1.2.2.2.1.2.2.2.1
      have e82 := hR2.2.2.2.2.1
      have hi := hR2.2.2.2.1
      have hn := hR2.n40
      have hcr := hR2.ck i
      have hnx := sm_next l G h2 t n i (-1) hR2 1 (by omega)
      by_cases q : ck t n i = 58
      · have hB : rdB t n i = .inr (-1, i, []) := by
          unfold rdB
          rw [if_pos q]
        have h77 := rd_77 l G h2 QQ t n i b hR2 lv hlv (fun h' k1 k2 => K h' (hK2.tr k1) (rrP_C hA hB e02 e12 (fun z => absurd rfl z) k2))
        rw [q] at hnx
        clear K
        refine z_run1 tsX8_reads [] 20 ?_
        simp (maxSteps := 1000000) -implicitDefEqProofs +contextual (disch := omega) only [z_wp_t, z_wp_u, ↓pI_e, ↓pL_e, ↓pO_e, ↓pR_e, ↓p1_I, ↓p1_O, z_gl, z_st1, z_st2, z_nl_I, z_nl_O, z_nl_J, z_nl_L, if_true, if_false, ite_true, ite_false, true_and, and_true, List.mem_cons, List.not_mem_nil, or_false, false_or, or_self, List.length_cons, List.length_nil, InR_t, InL_t, z_ix_t, mI_s1, mI_s2, ↓brT, ↓brF, ↓brT', ↓brF', mL_sI, mR_sI, mK_sI, mS_sI, mI_sL, mL_s1, mL_s2, mR_sL, mK_sL, mS_sL, mI_sR, mL_sR, mR_s1, mR_s2, mK_sR, mS_sR, mA_s1, mA_s2, mL_sA, mR_sA, mK_sA, mS_sA, ix_n, ix_a, ix_m, ix_s, z_sw, z_stop, forall_const, true_implies, false_implies, imp_self, implies_true, not_true_eq_false, not_false_eq_true, ne_eq, eq_self, Option.some.injEq, reduceCtorEq, Nat.reduceAdd, Nat.reduceSub, Nat.reduceMul, Nat.reduceEqDiff, Nat.reduceLT, Nat.reduceLeDiff, Int.reduceAdd, Int.reduceMul, Int.reduceSub, Int.reduceNeg, Int.reduceToNat, Int.reduceLT, Int.reduceLE, Int.reduceEq, ↓reduceIte, List.reverse_cons, Option.toList, List.cons_append, List.nil_append, vI_inj, vL_inj, vO_inj, rI, rL, rO, rV, mI_sQ, mL_sQ, mK_sQ, mS_sQ, mQ_s1, mQ_s2, iL_and, iL_or, iL_xor, iL_shl, iL_ushr, iR_and, iR_or, iR_xor, iR_shl, iR_shr, iR_ushr, iR_cmp, yc0, tlX8_reads, tkX8_reads, o_aload, o_getI, o_getR, o_goto, o_iald, o_iast, o_ic, o_iceq, o_icge, o_icne, o_ifeq, o_iload, o_putI, o_vret, c2, e82]
        try simp +contextual (disch := omega) only [impF, impT, and_true, true_and, implies_true, not_false_eq_true, not_true_eq_false]
        refine x_callV (by decide +kernel) cv_X8_91 (hnx) c2 (by omega) rfl (by omega) (by omega) rfl (Nat.le_of_ble_eq_true rfl) ?_
        rintro r h' ⟨rfl, hE⟩
        subst h'
        refine z_run1 tsX8_reads [77] 20 ?_
        simp (maxSteps := 1000000) -implicitDefEqProofs +contextual (disch := omega) only [z_wp_t, z_wp_u, ↓pI_e, ↓pL_e, ↓pO_e, ↓pR_e, ↓p1_I, ↓p1_O, z_gl, z_st1, z_st2, z_nl_I, z_nl_O, z_nl_J, z_nl_L, if_true, if_false, ite_true, ite_false, true_and, and_true, List.mem_cons, List.not_mem_nil, or_false, false_or, or_self, List.length_cons, List.length_nil, InR_t, InL_t, z_ix_t, mI_s1, mI_s2, ↓brT, ↓brF, ↓brT', ↓brF', mL_sI, mR_sI, mK_sI, mS_sI, mI_sL, mL_s1, mL_s2, mR_sL, mK_sL, mS_sL, mI_sR, mL_sR, mR_s1, mR_s2, mK_sR, mS_sR, mA_s1, mA_s2, mL_sA, mR_sA, mK_sA, mS_sA, ix_n, ix_a, ix_m, ix_s, z_sw, z_stop, forall_const, true_implies, false_implies, imp_self, implies_true, not_true_eq_false, not_false_eq_true, ne_eq, eq_self, Option.some.injEq, reduceCtorEq, Nat.reduceAdd, Nat.reduceSub, Nat.reduceMul, Nat.reduceEqDiff, Nat.reduceLT, Nat.reduceLeDiff, Int.reduceAdd, Int.reduceMul, Int.reduceSub, Int.reduceNeg, Int.reduceToNat, Int.reduceLT, Int.reduceLE, Int.reduceEq, ↓reduceIte, List.reverse_cons, Option.toList, List.cons_append, List.nil_append, vI_inj, vL_inj, vO_inj, rI, rL, rO, rV, mI_sQ, mL_sQ, mK_sQ, mS_sQ, mQ_s1, mQ_s2, iL_and, iL_or, iL_xor, iL_shl, iL_ushr, iR_and, iR_or, iR_xor, iR_shl, iR_shr, iR_ushr, iR_cmp, yc0, tlX8_reads, tkX8_reads, o_aload, o_getI, o_getR, o_goto, o_iald, o_iast, o_ic, o_iceq, o_icge, o_icne, o_ifeq, o_iload, o_putI, o_vret]
        try simp +contextual (disch := omega) only [impF, impT, and_true, true_and, implies_true, not_false_eq_true, not_true_eq_false]
        exact h77
      · have hpk := sm_pack l G h2 t n i hR2 3 (by omega)
        by_cases q2 : 97 ≤ ck t n i ∧ ck t n i ≤ 104
        · have hi1 : i + 1 ≤ n := ck_lt (t := t) (n := n) (i := i) (by omega)
          have hskn := (sk_le t hi1).2
          have hR3 := (hR2.at _ hskn).s 1 (ck t n i - 97)
          have hK3 : RK h (sI (sI h2 93 7 (sk t n (i + 1) : Int)) 97 1 (ck t n i - 97)) := hK2.tr (RK.tr (RK.i (Or.inl rfl)) RK.s)
          have e13 : gI (sI (sI h2 93 7 (sk t n (i + 1) : Int)) 97 1 (ck t n i - 97)) 97 1 = ck t n i - 97 := mI_s1 _ _ _ _
          have e03 : gI (sI (sI h2 93 7 (sk t n (i + 1) : Int)) 97 1 (ck t n i - 97)) 97 0 = av := by rw [mI_s2 _ _ (Or.inr (by omega)), mI_s2 _ _ (Or.inl (by omega))]; exact e02
          have hB : rdB t n i = if (pRg t n 20 (sk t n (i + 1)) []).1 = true then .inr (ck t n i - 97, (pRg t n 20 (sk t n (i + 1)) []).2) else .inl (pRg t n 20 (sk t n (i + 1)) []).2.1 := by
            unfold rdB
            rw [if_neg q, if_pos q2]
          have st64 : z_X l G mtX8_reads lv 0 0 (QQ) 0 0 (sI (sI h2 93 7 (sk t n (i + 1) : Int)) 97 1 (ck t n i - 97)) 64 [vR 93, vI b] [] := by
            generalize sI (sI h2 93 7 (sk t n (i + 1) : Int)) 97 1 (ck t n i - 97) = h3 at *
            have c3 := hR3.1.1
            have e83 := hR3.2.2.2.2.1
            have hrg := sm_range l G h3 t n (sk t n (i + 1)) 4 (by omega) hR3 5 (by omega)
            rw [show ((4 : Nat) : Int) = 4 from rfl] at hrg
            have hnx2 : ∀ h4, rrQ h3 t n 4 (pRg t n 20 (sk t n (i + 1)) []) none h4 → z_X l G mtX8_reads lv 0 0 (QQ) 0 0 (h4) 77 [vR 93, vI b] [] := by
              intro h4 hq
              generalize pRg t n 20 (sk t n (i + 1)) [] = x at *
              obtain ⟨-, q1, q3, ⟨q4, q5, q6⟩ | ⟨j, q4, q5⟩⟩ := hq
              · rw [if_pos q5] at hB
                exact rd_77 l G h4 QQ t n x.2.1 b q4 lv hlv (fun h' k1 k2 => K h' ((hK3.tr q1).tr k1) (rrP_C hA hB (by rw [q3 0 (by omega)]; exact e03) (by rw [q3 1 (by omega)]; exact e13) (fun _ => q6) k2))
              · have hj := q4.2.2.2.2.2
                refine rd_77F l G h4 QQ t n j (x.2.1 : Int) b q4 (by omega) lv hlv (fun h' k1 k2 => K h' ((hK3.tr q1).tr k1) ?_)
                cases hx : x.1
                · rw [if_neg (by rw [hx]; decide)] at hB
                  exact rrP_B hA hB k2
                · rw [if_pos hx] at hB
                  have h46 := q5 hx
                  have hC : rdC t n x.2.1 = .inl x.2.1 := by
                    unfold rdC
                    rw [if_neg (by rw [h46]; decide)]
                  unfold rrP rdRule
                  rw [hA]
                  simp only [hB, hC]
                  exact k2
            clear K hB
            refine z_run1 tsX8_reads [] 20 ?_
            simp (maxSteps := 1000000) -implicitDefEqProofs +contextual (disch := omega) only [z_wp_t, z_wp_u, ↓pI_e, ↓pL_e, ↓pO_e, ↓pR_e, ↓p1_I, ↓p1_O, z_gl, z_st1, z_st2, z_nl_I, z_nl_O, z_nl_J, z_nl_L, if_true, if_false, ite_true, ite_false, true_and, and_true, List.mem_cons, List.not_mem_nil, or_false, false_or, or_self, List.length_cons, List.length_nil, InR_t, InL_t, z_ix_t, mI_s1, mI_s2, ↓brT, ↓brF, ↓brT', ↓brF', mL_sI, mR_sI, mK_sI, mS_sI, mI_sL, mL_s1, mL_s2, mR_sL, mK_sL, mS_sL, mI_sR, mL_sR, mR_s1, mR_s2, mK_sR, mS_sR, mA_s1, mA_s2, mL_sA, mR_sA, mK_sA, mS_sA, ix_n, ix_a, ix_m, ix_s, z_sw, z_stop, forall_const, true_implies, false_implies, imp_self, implies_true, not_true_eq_false, not_false_eq_true, ne_eq, eq_self, Option.some.injEq, reduceCtorEq, Nat.reduceAdd, Nat.reduceSub, Nat.reduceMul, Nat.reduceEqDiff, Nat.reduceLT, Nat.reduceLeDiff, Int.reduceAdd, Int.reduceMul, Int.reduceSub, Int.reduceNeg, Int.reduceToNat, Int.reduceLT, Int.reduceLE, Int.reduceEq, ↓reduceIte, List.reverse_cons, Option.toList, List.cons_append, List.nil_append, vI_inj, vL_inj, vO_inj, rI, rL, rO, rV, mI_sQ, mL_sQ, mK_sQ, mS_sQ, mQ_s1, mQ_s2, iL_and, iL_or, iL_xor, iL_shl, iL_ushr, iR_and, iR_or, iR_xor, iR_shl, iR_shr, iR_ushr, iR_cmp, yc0, tlX8_reads, tkX8_reads, o_aload, o_getI, o_getR, o_goto, o_iald, o_iast, o_ic, o_iceq, o_icge, o_icne, o_ifeq, o_iload, o_putI, o_vret, c3, e83]
            try simp +contextual (disch := omega) only [impF, impT, and_true, true_and, implies_true, not_false_eq_true, not_true_eq_false]
            refine x_callV (by decide +kernel) cv_X8_121 (hrg) c3 (by omega) rfl (by omega) (by omega) rfl (Nat.le_of_ble_eq_true rfl) ?_
            intro r h4 hq
            obtain rfl := hq.1
            exact hnx2 h4 hq
          clear K hB
          refine z_run1 tsX8_reads [] 20 ?_
          simp (maxSteps := 1000000) -implicitDefEqProofs +contextual (disch := omega) only [z_wp_t, z_wp_u, ↓pI_e, ↓pL_e, ↓pO_e, ↓pR_e, ↓p1_I, ↓p1_O, z_gl, z_st1, z_st2, z_nl_I, z_nl_O, z_nl_J, z_nl_L, if_true, if_false, ite_true, ite_false, true_and, and_true, List.mem_cons, List.not_mem_nil, or_false, false_or, or_self, List.length_cons, List.length_nil, InR_t, InL_t, z_ix_t, mI_s1, mI_s2, ↓brT, ↓brF, ↓brT', ↓brF', mL_sI, mR_sI, mK_sI, mS_sI, mI_sL, mL_s1, mL_s2, mR_sL, mK_sL, mS_sL, mI_sR, mL_sR, mR_s1, mR_s2, mK_sR, mS_sR, mA_s1, mA_s2, mL_sA, mR_sA, mK_sA, mS_sA, ix_n, ix_a, ix_m, ix_s, z_sw, z_stop, forall_const, true_implies, false_implies, imp_self, implies_true, not_true_eq_false, not_false_eq_true, ne_eq, eq_self, Option.some.injEq, reduceCtorEq, Nat.reduceAdd, Nat.reduceSub, Nat.reduceMul, Nat.reduceEqDiff, Nat.reduceLT, Nat.reduceLeDiff, Int.reduceAdd, Int.reduceMul, Int.reduceSub, Int.reduceNeg, Int.reduceToNat, Int.reduceLT, Int.reduceLE, Int.reduceEq, ↓reduceIte, List.reverse_cons, Option.toList, List.cons_append, List.nil_append, vI_inj, vL_inj, vO_inj, rI, rL, rO, rV, mI_sQ, mL_sQ, mK_sQ, mS_sQ, mQ_s1, mQ_s2, iL_and, iL_or, iL_xor, iL_shl, iL_ushr, iR_and, iR_or, iR_xor, iR_shl, iR_shr, iR_ushr, iR_cmp, yc0, tlX8_reads, tkX8_reads, o_aload, o_getI, o_getR, o_goto, o_iald, o_iast, o_ic, o_iceq, o_icge, o_icne, o_ifeq, o_iload, o_putI, o_vret, c2, e82]
          try simp +contextual (disch := omega) only [impF, impT, and_true, true_and, implies_true, not_false_eq_true, not_true_eq_false]
          refine x_callV (by decide +kernel) cv_X8_91 (hnx) c2 (by omega) rfl (by omega) (by omega) rfl (Nat.le_of_ble_eq_true rfl) ?_
          rintro r h' ⟨rfl, hE⟩
          subst h'
          refine z_run1 tsX8_reads [] 20 ?_
          simp (maxSteps := 1000000) -implicitDefEqProofs +contextual (disch := omega) only [z_wp_t, z_wp_u, ↓pI_e, ↓pL_e, ↓pO_e, ↓pR_e, ↓p1_I, ↓p1_O, z_gl, z_st1, z_st2, z_nl_I, z_nl_O, z_nl_J, z_nl_L, if_true, if_false, ite_true, ite_false, true_and, and_true, List.mem_cons, List.not_mem_nil, or_false, false_or, or_self, List.length_cons, List.length_nil, InR_t, InL_t, z_ix_t, mI_s1, mI_s2, ↓brT, ↓brF, ↓brT', ↓brF', mL_sI, mR_sI, mK_sI, mS_sI, mI_sL, mL_s1, mL_s2, mR_sL, mK_sL, mS_sL, mI_sR, mL_sR, mR_s1, mR_s2, mK_sR, mS_sR, mA_s1, mA_s2, mL_sA, mR_sA, mK_sA, mS_sA, ix_n, ix_a, ix_m, ix_s, z_sw, z_stop, forall_const, true_implies, false_implies, imp_self, implies_true, not_true_eq_false, not_false_eq_true, ne_eq, eq_self, Option.some.injEq, reduceCtorEq, Nat.reduceAdd, Nat.reduceSub, Nat.reduceMul, Nat.reduceEqDiff, Nat.reduceLT, Nat.reduceLeDiff, Int.reduceAdd, Int.reduceMul, Int.reduceSub, Int.reduceNeg, Int.reduceToNat, Int.reduceLT, Int.reduceLE, Int.reduceEq, ↓reduceIte, List.reverse_cons, Option.toList, List.cons_append, List.nil_append, vI_inj, vL_inj, vO_inj, rI, rL, rO, rV, mI_sQ, mL_sQ, mK_sQ, mS_sQ, mQ_s1, mQ_s2, iL_and, iL_or, iL_xor, iL_shl, iL_ushr, iR_and, iR_or, iR_xor, iR_shl, iR_shr, iR_ushr, iR_cmp, yc0, tlX8_reads, tkX8_reads, o_aload, o_getI, o_getR, o_goto, o_iald, o_iast, o_ic, o_iceq, o_icge, o_icne, o_ifeq, o_iload, o_putI, o_vret, c2, t5]
          try simp +contextual (disch := omega) only [impF, impT, and_true, true_and, implies_true, not_false_eq_true, not_true_eq_false]
          refine x_callV (by decide +kernel) cv_X8_128 (hpk) c2 (by omega) rfl (by omega) (by omega) rfl (Nat.le_of_ble_eq_true rfl) ?_
          rintro r h' (⟨-, rfl, hE⟩ | ⟨w, -⟩)
          · subst h'
            generalize ck t n i = c at *
            refine z_run1 tsX8_reads [64] 20 ?_
            simp (maxSteps := 1000000) -implicitDefEqProofs +contextual (disch := omega) only [z_wp_t, z_wp_u, ↓pI_e, ↓pL_e, ↓pO_e, ↓pR_e, ↓p1_I, ↓p1_O, z_gl, z_st1, z_st2, z_nl_I, z_nl_O, z_nl_J, z_nl_L, if_true, if_false, ite_true, ite_false, true_and, and_true, List.mem_cons, List.not_mem_nil, or_false, false_or, or_self, List.length_cons, List.length_nil, InR_t, InL_t, z_ix_t, mI_s1, mI_s2, ↓brT, ↓brF, ↓brT', ↓brF', mL_sI, mR_sI, mK_sI, mS_sI, mI_sL, mL_s1, mL_s2, mR_sL, mK_sL, mS_sL, mI_sR, mL_sR, mR_s1, mR_s2, mK_sR, mS_sR, mA_s1, mA_s2, mL_sA, mR_sA, mK_sA, mS_sA, ix_n, ix_a, ix_m, ix_s, z_sw, z_stop, forall_const, true_implies, false_implies, imp_self, implies_true, not_true_eq_false, not_false_eq_true, ne_eq, eq_self, Option.some.injEq, reduceCtorEq, Nat.reduceAdd, Nat.reduceSub, Nat.reduceMul, Nat.reduceEqDiff, Nat.reduceLT, Nat.reduceLeDiff, Int.reduceAdd, Int.reduceMul, Int.reduceSub, Int.reduceNeg, Int.reduceToNat, Int.reduceLT, Int.reduceLE, Int.reduceEq, ↓reduceIte, List.reverse_cons, Option.toList, List.cons_append, List.nil_append, vI_inj, vL_inj, vO_inj, rI, rL, rO, rV, mI_sQ, mL_sQ, mK_sQ, mS_sQ, mQ_s1, mQ_s2, iL_and, iL_or, iL_xor, iL_shl, iL_ushr, iR_and, iR_or, iR_xor, iR_shl, iR_shr, iR_ushr, iR_cmp, yc0, tlX8_reads, tkX8_reads, o_aload, o_getI, o_getR, o_goto, o_iald, o_iast, o_ic, o_iceq, o_icge, o_icne, o_ifeq, o_iload, o_putI, o_vret, c2, d97]
            try simp +contextual (disch := omega) only [impF, impT, and_true, true_and, implies_true, not_false_eq_true, not_true_eq_false]
            exact st64
          · exact absurd q2 w
        · have hB : rdB t n i = .inl i := by
            unfold rdB
            rw [if_neg q, if_neg q2]
          have hR3 := (hR2.fl (i : Int) (by omega)).s 1 (-1)
          have e83 := hR3.2.2.2.2.1
          have h77 := rd_77F l G _ QQ t n i (i : Int) b hR3 (by omega) lv hlv (fun h' k1 k2 => K h' ((hK2.tr (RK.tr (RK.i (Or.inr rfl)) RK.s)).tr k1) (rrP_B hA hB k2))
          clear K hB
          refine z_run1 tsX8_reads [] 20 ?_
          simp (maxSteps := 1000000) -implicitDefEqProofs +contextual (disch := omega) only [z_wp_t, z_wp_u, ↓pI_e, ↓pL_e, ↓pO_e, ↓pR_e, ↓p1_I, ↓p1_O, z_gl, z_st1, z_st2, z_nl_I, z_nl_O, z_nl_J, z_nl_L, if_true, if_false, ite_true, ite_false, true_and, and_true, List.mem_cons, List.not_mem_nil, or_false, false_or, or_self, List.length_cons, List.length_nil, InR_t, InL_t, z_ix_t, mI_s1, mI_s2, ↓brT, ↓brF, ↓brT', ↓brF', mL_sI, mR_sI, mK_sI, mS_sI, mI_sL, mL_s1, mL_s2, mR_sL, mK_sL, mS_sL, mI_sR, mL_sR, mR_s1, mR_s2, mK_sR, mS_sR, mA_s1, mA_s2, mL_sA, mR_sA, mK_sA, mS_sA, ix_n, ix_a, ix_m, ix_s, z_sw, z_stop, forall_const, true_implies, false_implies, imp_self, implies_true, not_true_eq_false, not_false_eq_true, ne_eq, eq_self, Option.some.injEq, reduceCtorEq, Nat.reduceAdd, Nat.reduceSub, Nat.reduceMul, Nat.reduceEqDiff, Nat.reduceLT, Nat.reduceLeDiff, Int.reduceAdd, Int.reduceMul, Int.reduceSub, Int.reduceNeg, Int.reduceToNat, Int.reduceLT, Int.reduceLE, Int.reduceEq, ↓reduceIte, List.reverse_cons, Option.toList, List.cons_append, List.nil_append, vI_inj, vL_inj, vO_inj, rI, rL, rO, rV, mI_sQ, mL_sQ, mK_sQ, mS_sQ, mQ_s1, mQ_s2, iL_and, iL_or, iL_xor, iL_shl, iL_ushr, iR_and, iR_or, iR_xor, iR_shl, iR_shr, iR_ushr, iR_cmp, yc0, tlX8_reads, tkX8_reads, o_aload, o_getI, o_getR, o_goto, o_iald, o_iast, o_ic, o_iceq, o_icge, o_icne, o_ifeq, o_iload, o_putI, o_vret, c2, e82]
          try simp +contextual (disch := omega) only [impF, impT, and_true, true_and, implies_true, not_false_eq_true, not_true_eq_false]
          refine x_callV (by decide +kernel) cv_X8_91 (hnx) c2 (by omega) rfl (by omega) (by omega) rfl (Nat.le_of_ble_eq_true rfl) ?_
          rintro r h' ⟨rfl, hE⟩
          subst h'
          refine z_run1 tsX8_reads [] 20 ?_
          simp (maxSteps := 1000000) -implicitDefEqProofs +contextual (disch := omega) only [z_wp_t, z_wp_u, ↓pI_e, ↓pL_e, ↓pO_e, ↓pR_e, ↓p1_I, ↓p1_O, z_gl, z_st1, z_st2, z_nl_I, z_nl_O, z_nl_J, z_nl_L, if_true, if_false, ite_true, ite_false, true_and, and_true, List.mem_cons, List.not_mem_nil, or_false, false_or, or_self, List.length_cons, List.length_nil, InR_t, InL_t, z_ix_t, mI_s1, mI_s2, ↓brT, ↓brF, ↓brT', ↓brF', mL_sI, mR_sI, mK_sI, mS_sI, mI_sL, mL_s1, mL_s2, mR_sL, mK_sL, mS_sL, mI_sR, mL_sR, mR_s1, mR_s2, mK_sR, mS_sR, mA_s1, mA_s2, mL_sA, mR_sA, mK_sA, mS_sA, ix_n, ix_a, ix_m, ix_s, z_sw, z_stop, forall_const, true_implies, false_implies, imp_self, implies_true, not_true_eq_false, not_false_eq_true, ne_eq, eq_self, Option.some.injEq, reduceCtorEq, Nat.reduceAdd, Nat.reduceSub, Nat.reduceMul, Nat.reduceEqDiff, Nat.reduceLT, Nat.reduceLeDiff, Int.reduceAdd, Int.reduceMul, Int.reduceSub, Int.reduceNeg, Int.reduceToNat, Int.reduceLT, Int.reduceLE, Int.reduceEq, ↓reduceIte, List.reverse_cons, Option.toList, List.cons_append, List.nil_append, vI_inj, vL_inj, vO_inj, rI, rL, rO, rV, mI_sQ, mL_sQ, mK_sQ, mS_sQ, mQ_s1, mQ_s2, iL_and, iL_or, iL_xor, iL_shl, iL_ushr, iR_and, iR_or, iR_xor, iR_shl, iR_shr, iR_ushr, iR_cmp, yc0, tlX8_reads, tkX8_reads, o_aload, o_getI, o_getR, o_goto, o_iald, o_iast, o_ic, o_iceq, o_icge, o_icne, o_ifeq, o_iload, o_putI, o_vret, c2, t5]
          try simp +contextual (disch := omega) only [impF, impT, and_true, true_and, implies_true, not_false_eq_true, not_true_eq_false]
          refine x_callV (by decide +kernel) cv_X8_128 (hpk) c2 (by omega) rfl (by omega) (by omega) rfl (Nat.le_of_ble_eq_true rfl) ?_
          rintro r h' (⟨w, -⟩ | ⟨-, rfl, hE⟩)
          · exact absurd w q2
          · subst h'
            refine z_run1 tsX8_reads [77] 20 ?_
            simp (maxSteps := 1000000) -implicitDefEqProofs +contextual (disch := omega) only [z_wp_t, z_wp_u, ↓pI_e, ↓pL_e, ↓pO_e, ↓pR_e, ↓p1_I, ↓p1_O, z_gl, z_st1, z_st2, z_nl_I, z_nl_O, z_nl_J, z_nl_L, if_true, if_false, ite_true, ite_false, true_and, and_true, List.mem_cons, List.not_mem_nil, or_false, false_or, or_self, List.length_cons, List.length_nil, InR_t, InL_t, z_ix_t, mI_s1, mI_s2, ↓brT, ↓brF, ↓brT', ↓brF', mL_sI, mR_sI, mK_sI, mS_sI, mI_sL, mL_s1, mL_s2, mR_sL, mK_sL, mS_sL, mI_sR, mL_sR, mR_s1, mR_s2, mK_sR, mS_sR, mA_s1, mA_s2, mL_sA, mR_sA, mK_sA, mS_sA, ix_n, ix_a, ix_m, ix_s, z_sw, z_stop, forall_const, true_implies, false_implies, imp_self, implies_true, not_true_eq_false, not_false_eq_true, ne_eq, eq_self, Option.some.injEq, reduceCtorEq, Nat.reduceAdd, Nat.reduceSub, Nat.reduceMul, Nat.reduceEqDiff, Nat.reduceLT, Nat.reduceLeDiff, Int.reduceAdd, Int.reduceMul, Int.reduceSub, Int.reduceNeg, Int.reduceToNat, Int.reduceLT, Int.reduceLE, Int.reduceEq, ↓reduceIte, List.reverse_cons, Option.toList, List.cons_append, List.nil_append, vI_inj, vL_inj, vO_inj, rI, rL, rO, rV, mI_sQ, mL_sQ, mK_sQ, mS_sQ, mQ_s1, mQ_s2, iL_and, iL_or, iL_xor, iL_shl, iL_ushr, iR_and, iR_or, iR_xor, iR_shl, iR_shr, iR_ushr, iR_cmp, yc0, tlX8_reads, tkX8_reads, o_aload, o_getI, o_getR, o_goto, o_iald, o_iast, o_ic, o_iceq, o_icge, o_icne, o_ifeq, o_iload, o_putI, o_vret, c2, d97]
            try simp +contextual (disch := omega) only [impF, impT, and_true, true_and, implies_true, not_false_eq_true, not_true_eq_false]
            exact h77
    clear K
    refine z_run1 tsX8_reads [37] 30 ?_
    simp (maxSteps := 1000000) -implicitDefEqProofs +contextual (disch := omega) only [z_wp_t, z_wp_u, ↓pI_e, ↓pL_e, ↓pO_e, ↓pR_e, ↓p1_I, ↓p1_O, z_gl, z_st1, z_st2, z_nl_I, z_nl_O, z_nl_J, z_nl_L, if_true, if_false, ite_true, ite_false, true_and, and_true, List.mem_cons, List.not_mem_nil, or_false, false_or, or_self, List.length_cons, List.length_nil, InR_t, InL_t, z_ix_t, mI_s1, mI_s2, ↓brT, ↓brF, ↓brT', ↓brF', mL_sI, mR_sI, mK_sI, mS_sI, mI_sL, mL_s1, mL_s2, mR_sL, mK_sL, mS_sL, mI_sR, mL_sR, mR_s1, mR_s2, mK_sR, mS_sR, mA_s1, mA_s2, mL_sA, mR_sA, mK_sA, mS_sA, ix_n, ix_a, ix_m, ix_s, z_sw, z_stop, forall_const, true_implies, false_implies, imp_self, implies_true, not_true_eq_false, not_false_eq_true, ne_eq, eq_self, Option.some.injEq, reduceCtorEq, Nat.reduceAdd, Nat.reduceSub, Nat.reduceMul, Nat.reduceEqDiff, Nat.reduceLT, Nat.reduceLeDiff, Int.reduceAdd, Int.reduceMul, Int.reduceSub, Int.reduceNeg, Int.reduceToNat, Int.reduceLT, Int.reduceLE, Int.reduceEq, ↓reduceIte, List.reverse_cons, Option.toList, List.cons_append, List.nil_append, vI_inj, vL_inj, vO_inj, rI, rL, rO, rV, mI_sQ, mL_sQ, mK_sQ, mS_sQ, mQ_s1, mQ_s2, iL_and, iL_or, iL_xor, iL_shl, iL_ushr, iR_and, iR_or, iR_xor, iR_shl, iR_shr, iR_ushr, iR_cmp, yc0, tlX8_reads, tkX8_reads, o_aload, o_getI, o_getR, o_goto, o_iald, o_iast, o_ic, o_iceq, o_icge, o_icne, o_ifeq, o_iload, o_putI, o_vret, c1, c97, s5]
    try simp +contextual (disch := omega) only [impF, impT, and_true, true_and, implies_true, not_false_eq_true, not_true_eq_false]
    exact step
theorem rd_go {h : zH} {t : Nat → Int} {n : Nat} (hS : ShM h) (hT : MTx h t n) : RS (sI (sI h 93 7 0) 93 8 (-1)) t n 0 (-1) := by
  have hK : RK h (sI (sI h 93 7 0) 93 8 (-1)) := RK.tr (RK.i (Or.inl rfl)) (RK.i (Or.inr rfl))
  obtain ⟨b1, b2, b3, b4⟩ := hT
  refine ⟨hS.of hK.1.K hK.2.1, ⟨(hK.2.2.1 4 (by omega) (by omega)).trans b1, b2, ?_, b4⟩, ?_, Nat.zero_le _, mI_s1 _ _ _ _, by omega, by omega⟩
  · rw [hK.1.I (by omega)]
    exact b3
  · rw [mI_s2 _ _ (Or.inr (by omega)), mI_s1]
    rfl
set_option maxHeartbeats 4000000 in
theorem sm_reads0 (l : Launch) (G : zG) (h : zH) (t : Nat → Int) (n : Nat) (hS : ShM h) (hT : MTx h t n) (lv : Nat) (hlv : 6 ≤ lv) : z_Sp l G mtX8_reads lv 0 0 [vR 93, vI 0] (h) (fun r h' => r = none ∧ RK h h' ∧ rrP t n h') := by
  refine x_enter [vR 93, vI 0] (by decide +kernel) (by omega) rfl (Nat.le_of_ble_eq_true rfl) ?_
  generalize hQ : (fun (r : Option zV) (h' : zH) => r = none ∧ RK h h' ∧ rrP t n h') = QQ
  have c0 := hS.1
  have hR := rd_go hS hT
  have hK : RK h (sI (sI h 93 7 0) 93 8 (-1)) := RK.tr (RK.i (Or.inl rfl)) (RK.i (Or.inr rfl))
  have hbl := sm_blanks l G _ t n 0 (-1) hR 2 (by omega)
  have hR1 := hR.at _ (sk_le t (Nat.zero_le n)).2
  have c1 := hR1.1.1
  have hnx := rd_26 l G _ QQ t n 0 hR1 lv hlv (fun h' k1 k2 => by rw [← hQ]; exact ⟨rfl, (hK.tr (RK.i (Or.inl rfl))).tr k1, k2⟩)
  clear hQ
  generalize sI (sI (sI h 93 7 0) 93 8 (-1)) 93 7 (sk t n 0 : Int) = h1 at *
  refine z_run1 tsX8_reads [] 20 ?_
  simp (maxSteps := 1000000) -implicitDefEqProofs +contextual (disch := omega) only [z_wp_t, z_wp_u, ↓pI_e, ↓pL_e, ↓pO_e, ↓pR_e, ↓p1_I, ↓p1_O, z_gl, z_st1, z_st2, z_nl_I, z_nl_O, z_nl_J, z_nl_L, if_true, if_false, ite_true, ite_false, true_and, and_true, List.mem_cons, List.not_mem_nil, or_false, false_or, or_self, List.length_cons, List.length_nil, InR_t, InL_t, z_ix_t, mI_s1, mI_s2, ↓brT, ↓brF, ↓brT', ↓brF', mL_sI, mR_sI, mK_sI, mS_sI, mI_sL, mL_s1, mL_s2, mR_sL, mK_sL, mS_sL, mI_sR, mL_sR, mR_s1, mR_s2, mK_sR, mS_sR, mA_s1, mA_s2, mL_sA, mR_sA, mK_sA, mS_sA, ix_n, ix_a, ix_m, ix_s, z_sw, z_stop, forall_const, true_implies, false_implies, imp_self, implies_true, not_true_eq_false, not_false_eq_true, ne_eq, eq_self, Option.some.injEq, reduceCtorEq, Nat.reduceAdd, Nat.reduceSub, Nat.reduceMul, Nat.reduceEqDiff, Nat.reduceLT, Nat.reduceLeDiff, Int.reduceAdd, Int.reduceMul, Int.reduceSub, Int.reduceNeg, Int.reduceToNat, Int.reduceLT, Int.reduceLE, Int.reduceEq, ↓reduceIte, List.reverse_cons, Option.toList, List.cons_append, List.nil_append, vI_inj, vL_inj, vO_inj, rI, rL, rO, rV, mI_sQ, mL_sQ, mK_sQ, mS_sQ, mQ_s1, mQ_s2, iL_and, iL_or, iL_xor, iL_shl, iL_ushr, iR_and, iR_or, iR_xor, iR_shl, iR_shr, iR_ushr, iR_cmp, yc0, tlX8_reads, tkX8_reads, o_aload, o_getI, o_getR, o_goto, o_iald, o_iast, o_ic, o_iceq, o_icge, o_icne, o_ifeq, o_iload, o_putI, o_vret, c0]
  try simp +contextual (disch := omega) only [impF, impT, and_true, true_and, implies_true, not_false_eq_true, not_true_eq_false]
  refine x_callV (by decide +kernel) cv_X8_108 (hbl) c0 (by omega) rfl (by omega) (by omega) rfl (Nat.le_of_ble_eq_true rfl) ?_
  rintro r h' ⟨rfl, hE⟩
  subst h'
  refine z_run1 tsX8_reads [26] 20 ?_
  simp (maxSteps := 1000000) -implicitDefEqProofs +contextual (disch := omega) only [z_wp_t, z_wp_u, ↓pI_e, ↓pL_e, ↓pO_e, ↓pR_e, ↓p1_I, ↓p1_O, z_gl, z_st1, z_st2, z_nl_I, z_nl_O, z_nl_J, z_nl_L, if_true, if_false, ite_true, ite_false, true_and, and_true, List.mem_cons, List.not_mem_nil, or_false, false_or, or_self, List.length_cons, List.length_nil, InR_t, InL_t, z_ix_t, mI_s1, mI_s2, ↓brT, ↓brF, ↓brT', ↓brF', mL_sI, mR_sI, mK_sI, mS_sI, mI_sL, mL_s1, mL_s2, mR_sL, mK_sL, mS_sL, mI_sR, mL_sR, mR_s1, mR_s2, mK_sR, mS_sR, mA_s1, mA_s2, mL_sA, mR_sA, mK_sA, mS_sA, ix_n, ix_a, ix_m, ix_s, z_sw, z_stop, forall_const, true_implies, false_implies, imp_self, implies_true, not_true_eq_false, not_false_eq_true, ne_eq, eq_self, Option.some.injEq, reduceCtorEq, Nat.reduceAdd, Nat.reduceSub, Nat.reduceMul, Nat.reduceEqDiff, Nat.reduceLT, Nat.reduceLeDiff, Int.reduceAdd, Int.reduceMul, Int.reduceSub, Int.reduceNeg, Int.reduceToNat, Int.reduceLT, Int.reduceLE, Int.reduceEq, ↓reduceIte, List.reverse_cons, Option.toList, List.cons_append, List.nil_append, vI_inj, vL_inj, vO_inj, rI, rL, rO, rV, mI_sQ, mL_sQ, mK_sQ, mS_sQ, mQ_s1, mQ_s2, iL_and, iL_or, iL_xor, iL_shl, iL_ushr, iR_and, iR_or, iR_xor, iR_shl, iR_shr, iR_ushr, iR_cmp, yc0, tlX8_reads, tkX8_reads, o_aload, o_getI, o_getR, o_goto, o_iald, o_iast, o_ic, o_iceq, o_icge, o_icne, o_ifeq, o_iload, o_putI, o_vret]
  try simp +contextual (disch := omega) only [impF, impT, and_true, true_and, implies_true, not_false_eq_true, not_true_eq_false]
  exact hnx
set_option maxHeartbeats 4000000 in
theorem sm_reads1 (l : Launch) (G : zG) (h : zH) (t : Nat → Int) (n : Nat) (hS : ShM h) (hT : MTx h t n) (lv : Nat) (hlv : 6 ≤ lv) : z_Sp l G mtX8_reads lv 0 0 [vR 93, vI 1] (h) (fun r h' => r = none ∧ RK h h' ∧ gI h' 93 8 = fltR t n ∧ (fltR t n = -1 → bts h' 4 (pRg t n 20 (sk t n 0) []).2.2)) := by
  refine x_enter [vR 93, vI 1] (by decide +kernel) (by omega) rfl (Nat.le_of_ble_eq_true rfl) ?_
  unfold fltR
  generalize hQ : (fun (r : Option zV) (h' : zH) => r = none ∧ RK h h' ∧ gI h' 93 8 = (if (pRg t n 20 (sk t n 0) []).1 = true ∧ ¬ (pRg t n 20 (sk t n 0) []).2.1 < n then -1 else ((pRg t n 20 (sk t n 0) []).2.1 : Int)) ∧ ((if (pRg t n 20 (sk t n 0) []).1 = true ∧ ¬ (pRg t n 20 (sk t n 0) []).2.1 < n then -1 else ((pRg t n 20 (sk t n 0) []).2.1 : Int)) = -1 → bts h' 4 (pRg t n 20 (sk t n 0) []).2.2)) = QQ
  have c0 := hS.1
  have hR := rd_go hS hT
  have hK : RK h (sI (sI h 93 7 0) 93 8 (-1)) := RK.tr (RK.i (Or.inl rfl)) (RK.i (Or.inr rfl))
  have hbl := sm_blanks l G _ t n 0 (-1) hR 2 (by omega)
  have hR1 := hR.at _ (sk_le t (Nat.zero_le n)).2
  have hK1 : RK h (sI (sI (sI h 93 7 0) 93 8 (-1)) 93 7 (sk t n 0 : Int)) := hK.tr (RK.i (Or.inl rfl))
  have c1 := hR1.1.1
  generalize sI (sI (sI h 93 7 0) 93 8 (-1)) 93 7 (sk t n 0 : Int) = h1 at *
  have hrg := sm_range l G h1 t n (sk t n 0) 4 (by omega) hR1 5 (by omega)
  rw [show ((4 : Nat) : Int) = 4 from rfl] at hrg
  have hnx : ∀ h2, rrQ h1 t n 4 (pRg t n 20 (sk t n 0) []) none h2 → z_X l G mtX8_reads lv 0 0 (QQ) 0 0 (h2) 155 [vR 93, vI 1] [] := by
    intro h2 hq
    generalize pRg t n 20 (sk t n 0) [] = x at *
    obtain ⟨-, q1, q2, ⟨q3, q4, q5⟩ | ⟨j, q3, q4⟩⟩ := hq
    · refine rd_155 l G h2 QQ t n _ _ 1 q3 lv hlv (fun h' k1 k2 k3 => ?_)
      rw [if_pos rfl] at k3
      rw [← hQ]
      refine ⟨rfl, (hK1.tr q1).tr k1, ?_, fun _ v hv => by rw [k2]; exact q5 v hv⟩
      by_cases w : x.2.1 < n
      · rw [if_neg (fun z => z.2 w), k3, if_pos w]
      · rw [if_pos ⟨q4, w⟩, k3, if_neg w]
    · have hj := q3.2.2.2.2.2
      refine rd_155 l G h2 QQ t n _ _ 1 q3 lv hlv (fun h' k1 k2 k3 => ?_)
      rw [if_neg (by omega)] at k3
      have hif : ¬ (x.1 = true ∧ ¬ x.2.1 < n) := by
        rintro ⟨z1, z2⟩
        exact z2 (ck_lt (by rw [q4 z1]; decide))
      rw [← hQ]
      refine ⟨rfl, (hK1.tr q1).tr k1, ?_, fun z => ?_⟩
      · rw [if_neg hif]
        exact k3
      · rw [if_neg hif] at z
        omega
  clear hQ
  refine z_run1 tsX8_reads [] 20 ?_
  simp (maxSteps := 1000000) -implicitDefEqProofs +contextual (disch := omega) only [z_wp_t, z_wp_u, ↓pI_e, ↓pL_e, ↓pO_e, ↓pR_e, ↓p1_I, ↓p1_O, z_gl, z_st1, z_st2, z_nl_I, z_nl_O, z_nl_J, z_nl_L, if_true, if_false, ite_true, ite_false, true_and, and_true, List.mem_cons, List.not_mem_nil, or_false, false_or, or_self, List.length_cons, List.length_nil, InR_t, InL_t, z_ix_t, mI_s1, mI_s2, ↓brT, ↓brF, ↓brT', ↓brF', mL_sI, mR_sI, mK_sI, mS_sI, mI_sL, mL_s1, mL_s2, mR_sL, mK_sL, mS_sL, mI_sR, mL_sR, mR_s1, mR_s2, mK_sR, mS_sR, mA_s1, mA_s2, mL_sA, mR_sA, mK_sA, mS_sA, ix_n, ix_a, ix_m, ix_s, z_sw, z_stop, forall_const, true_implies, false_implies, imp_self, implies_true, not_true_eq_false, not_false_eq_true, ne_eq, eq_self, Option.some.injEq, reduceCtorEq, Nat.reduceAdd, Nat.reduceSub, Nat.reduceMul, Nat.reduceEqDiff, Nat.reduceLT, Nat.reduceLeDiff, Int.reduceAdd, Int.reduceMul, Int.reduceSub, Int.reduceNeg, Int.reduceToNat, Int.reduceLT, Int.reduceLE, Int.reduceEq, ↓reduceIte, List.reverse_cons, Option.toList, List.cons_append, List.nil_append, vI_inj, vL_inj, vO_inj, rI, rL, rO, rV, mI_sQ, mL_sQ, mK_sQ, mS_sQ, mQ_s1, mQ_s2, iL_and, iL_or, iL_xor, iL_shl, iL_ushr, iR_and, iR_or, iR_xor, iR_shl, iR_shr, iR_ushr, iR_cmp, yc0, tlX8_reads, tkX8_reads, o_aload, o_getI, o_getR, o_goto, o_iald, o_iast, o_ic, o_iceq, o_icge, o_icne, o_ifeq, o_iload, o_putI, o_vret, c0]
  try simp +contextual (disch := omega) only [impF, impT, and_true, true_and, implies_true, not_false_eq_true, not_true_eq_false]
  refine x_callV (by decide +kernel) cv_X8_108 (hbl) c0 (by omega) rfl (by omega) (by omega) rfl (Nat.le_of_ble_eq_true rfl) ?_
  rintro r h' ⟨rfl, hE⟩
  subst h'
  refine z_run1 tsX8_reads [] 20 ?_
  simp (maxSteps := 1000000) -implicitDefEqProofs +contextual (disch := omega) only [z_wp_t, z_wp_u, ↓pI_e, ↓pL_e, ↓pO_e, ↓pR_e, ↓p1_I, ↓p1_O, z_gl, z_st1, z_st2, z_nl_I, z_nl_O, z_nl_J, z_nl_L, if_true, if_false, ite_true, ite_false, true_and, and_true, List.mem_cons, List.not_mem_nil, or_false, false_or, or_self, List.length_cons, List.length_nil, InR_t, InL_t, z_ix_t, mI_s1, mI_s2, ↓brT, ↓brF, ↓brT', ↓brF', mL_sI, mR_sI, mK_sI, mS_sI, mI_sL, mL_s1, mL_s2, mR_sL, mK_sL, mS_sL, mI_sR, mL_sR, mR_s1, mR_s2, mK_sR, mS_sR, mA_s1, mA_s2, mL_sA, mR_sA, mK_sA, mS_sA, ix_n, ix_a, ix_m, ix_s, z_sw, z_stop, forall_const, true_implies, false_implies, imp_self, implies_true, not_true_eq_false, not_false_eq_true, ne_eq, eq_self, Option.some.injEq, reduceCtorEq, Nat.reduceAdd, Nat.reduceSub, Nat.reduceMul, Nat.reduceEqDiff, Nat.reduceLT, Nat.reduceLeDiff, Int.reduceAdd, Int.reduceMul, Int.reduceSub, Int.reduceNeg, Int.reduceToNat, Int.reduceLT, Int.reduceLE, Int.reduceEq, ↓reduceIte, List.reverse_cons, Option.toList, List.cons_append, List.nil_append, vI_inj, vL_inj, vO_inj, rI, rL, rO, rV, mI_sQ, mL_sQ, mK_sQ, mS_sQ, mQ_s1, mQ_s2, iL_and, iL_or, iL_xor, iL_shl, iL_ushr, iR_and, iR_or, iR_xor, iR_shl, iR_shr, iR_ushr, iR_cmp, yc0, tlX8_reads, tkX8_reads, o_aload, o_getI, o_getR, o_goto, o_iald, o_iast, o_ic, o_iceq, o_icge, o_icne, o_ifeq, o_iload, o_putI, o_vret]
  try simp +contextual (disch := omega) only [impF, impT, and_true, true_and, implies_true, not_false_eq_true, not_true_eq_false]
  refine x_callV (by decide +kernel) cv_X8_121 (hrg) c1 (by omega) rfl (by omega) (by omega) rfl (Nat.le_of_ble_eq_true rfl) ?_
  intro r h2 hq
  obtain rfl := hq.1
  have hnx := hnx h2 hq
  clear hq hrg
  refine z_run1 tsX8_reads [155] 20 ?_
  simp (maxSteps := 1000000) -implicitDefEqProofs +contextual (disch := omega) only [z_wp_t, z_wp_u, ↓pI_e, ↓pL_e, ↓pO_e, ↓pR_e, ↓p1_I, ↓p1_O, z_gl, z_st1, z_st2, z_nl_I, z_nl_O, z_nl_J, z_nl_L, if_true, if_false, ite_true, ite_false, true_and, and_true, List.mem_cons, List.not_mem_nil, or_false, false_or, or_self, List.length_cons, List.length_nil, InR_t, InL_t, z_ix_t, mI_s1, mI_s2, ↓brT, ↓brF, ↓brT', ↓brF', mL_sI, mR_sI, mK_sI, mS_sI, mI_sL, mL_s1, mL_s2, mR_sL, mK_sL, mS_sL, mI_sR, mL_sR, mR_s1, mR_s2, mK_sR, mS_sR, mA_s1, mA_s2, mL_sA, mR_sA, mK_sA, mS_sA, ix_n, ix_a, ix_m, ix_s, z_sw, z_stop, forall_const, true_implies, false_implies, imp_self, implies_true, not_true_eq_false, not_false_eq_true, ne_eq, eq_self, Option.some.injEq, reduceCtorEq, Nat.reduceAdd, Nat.reduceSub, Nat.reduceMul, Nat.reduceEqDiff, Nat.reduceLT, Nat.reduceLeDiff, Int.reduceAdd, Int.reduceMul, Int.reduceSub, Int.reduceNeg, Int.reduceToNat, Int.reduceLT, Int.reduceLE, Int.reduceEq, ↓reduceIte, List.reverse_cons, Option.toList, List.cons_append, List.nil_append, vI_inj, vL_inj, vO_inj, rI, rL, rO, rV, mI_sQ, mL_sQ, mK_sQ, mS_sQ, mQ_s1, mQ_s2, iL_and, iL_or, iL_xor, iL_shl, iL_ushr, iR_and, iR_or, iR_xor, iR_shl, iR_shr, iR_ushr, iR_cmp, yc0, tlX8_reads, tkX8_reads, o_aload, o_getI, o_getR, o_goto, o_iald, o_iast, o_ic, o_iceq, o_icge, o_icne, o_ifeq, o_iload, o_putI, o_vret]
  try simp +contextual (disch := omega) only [impF, impT, and_true, true_and, implies_true, not_false_eq_true, not_true_eq_false]
  exact hnx
