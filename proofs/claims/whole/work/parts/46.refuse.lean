/-! Outcome.refusedRules -/
theorem tb_del {m : Int} {r : Nat} (hr : r < 32) : tb (z_and m (z_xor (z_shl 1 (r : Int)) (-1))) = fun i => tb m i && decide (i ≠ r) := by
  funext i
  by_cases hi : i < 32
  · rw [tb_and, tb_not _ hi, tb_shl _ hr, tb_1]
    by_cases e : i = r
    · subst e; simp [hi]
    · by_cases h : r ≤ i
      · have : ¬ i - r = 0 := by omega
        simp [hi, e, this]
      · simp [hi, e, h]
  · rw [tb_ge _ (by omega), tb_ge _ (by omega)]; rfl
theorem m20 {m : Int} (hm : 0 ≤ m ∧ m < 1048576) {i : Nat} (hi : 20 ≤ i) : tb m i = false := by
  obtain ⟨n, rfl⟩ := Int.eq_ofNat_of_zero_le hm.1
  by_cases h : i < 32
  · rw [tb_nat h]
    exact Nat.testBit_lt_two_pow (Nat.lt_of_lt_of_le (show n < 2 ^ 20 by omega) (Nat.pow_le_pow_right (by omega) hi))
  · exact tb_ge _ (by omega)
theorem rfS_sub {A : zA} : ∀ n r, rfS A n r = true → actS A r = true
  | 0, r, h => h
  | n + 1, r, h => by
    simp only [rfS] at h
    split at h
    · simp at h; exact rfS_sub n r h.1
    · exact rfS_sub n r h
set_option maxRecDepth 4000 in
set_option maxHeartbeats 4000000 in
theorem sp_refusedRules (l : Launch) (G : zG) (h : zH) (o : Nat) (A : zA) (hO : OcOK h o A) (hA : AOK A) (ho : o + 15 < 109) (lv : Nat) (hlv : 13 ≤ lv) : z_Sp l G mtX1_refusedRules lv 0 0 [vR o] (h) (fun r h' => ∃ m : Int, r = some (vI m) ∧ OcK h h' o A ∧ (0 ≤ m ∧ m < 1048576) ∧ tb m = rfS A 20) := by
  have k0 := hO.1.1.1
  refine x_enter [vR o, vJ, vJ] (by decide +kernel) (by omega) rfl (Nat.le_of_ble_eq_true rfl) ?_
  generalize hQ : (fun (r : Option zV) (h' : zH) => ∃ m : Int, r = some (vI m) ∧ OcK h h' o A ∧ (0 ≤ m ∧ m < 1048576) ∧ tb m = rfS A 20) = QQ
  refine z_run1 tsX1_refusedRules [] 20 ?_
  simp (maxSteps := 1000000) -implicitDefEqProofs +contextual (disch := omega) only [z_wp_t, z_wp_u, ↓pI_e, ↓pL_e, ↓pO_e, ↓pR_e, ↓p1_I, ↓p1_O, z_gl, z_st1, z_st2, z_nl_I, z_nl_O, z_nl_J, z_nl_L, if_true, if_false, ite_true, ite_false, true_and, and_true, List.mem_cons, List.not_mem_nil, or_false, false_or, or_self, List.length_cons, List.length_nil, InR_t, InL_t, z_ix_t, mI_s1, mI_s2, ↓brT, ↓brF, ↓brT', ↓brF', mL_sI, mR_sI, mK_sI, mS_sI, mI_sL, mL_s1, mL_s2, mR_sL, mK_sL, mS_sL, mI_sR, mL_sR, mR_s1, mR_s2, mK_sR, mS_sR, mA_s1, mA_s2, mL_sA, mR_sA, mK_sA, mS_sA, ix_n, ix_a, ix_m, ix_s, z_sw, z_stop, forall_const, true_implies, false_implies, imp_self, implies_true, not_true_eq_false, not_false_eq_true, ne_eq, eq_self, Option.some.injEq, reduceCtorEq, Nat.reduceAdd, Nat.reduceSub, Nat.reduceMul, Nat.reduceEqDiff, Nat.reduceLT, Nat.reduceLeDiff, Int.reduceAdd, Int.reduceMul, Int.reduceSub, Int.reduceNeg, Int.reduceToNat, Int.reduceLT, Int.reduceLE, Int.reduceEq, ↓reduceIte, List.reverse_cons, Option.toList, List.cons_append, List.nil_append, vI_inj, vL_inj, vO_inj, rI, rL, rO, rV, mI_sQ, mL_sQ, mK_sQ, mS_sQ, mQ_s1, mQ_s2, iL_and, iL_or, iL_xor, iL_shl, iL_ushr, iR_and, iR_or, iR_xor, iR_shl, iR_shr, iR_ushr, iR_cmp, yc0, tlX1_refusedRules, tkX1_refusedRules, o_aload, o_getI, o_getR, o_goto, o_iand, o_ic, o_iceq, o_icge, o_ifne, o_iinc, o_iload, o_iret, o_ishl, o_istore, o_ixor, o_putI, o_putZ]
  try simp +contextual (disch := omega) only [impF, impT, and_true, true_and, implies_true, not_false_eq_true, not_true_eq_false]
  refine x_callV (by decide +kernel) cv_X1_66 (sp_ocLoad l G h o A hO hA ho 5 (by omega)) k0 (by omega) rfl (by omega) (by omega) rfl (Nat.le_of_ble_eq_true rfl) ?_
  rintro r h1 ⟨rfl, hK1, h31, ek, eL⟩
  have hO1 := hK1.2.2
  have k1 := hO1.1.1.1
  have fin : ∀ (h2 : zH), OcK h1 h2 o A → oc9 h2 o A → z_X l G mtX1_refusedRules lv 0 0 (QQ) 0 0 (h2) 73 [vR o, vJ, vJ] [] := by
    intro h2 hK2 hr
    have k2 := hK2.2.2.1.1.1
    refine z_run1 tsX1_refusedRules [] 20 ?_
    simp (maxSteps := 1000000) -implicitDefEqProofs +contextual (disch := omega) only [z_wp_t, z_wp_u, ↓pI_e, ↓pL_e, ↓pO_e, ↓pR_e, ↓p1_I, ↓p1_O, z_gl, z_st1, z_st2, z_nl_I, z_nl_O, z_nl_J, z_nl_L, if_true, if_false, ite_true, ite_false, true_and, and_true, List.mem_cons, List.not_mem_nil, or_false, false_or, or_self, List.length_cons, List.length_nil, InR_t, InL_t, z_ix_t, mI_s1, mI_s2, ↓brT, ↓brF, ↓brT', ↓brF', mL_sI, mR_sI, mK_sI, mS_sI, mI_sL, mL_s1, mL_s2, mR_sL, mK_sL, mS_sL, mI_sR, mL_sR, mR_s1, mR_s2, mK_sR, mS_sR, mA_s1, mA_s2, mL_sA, mR_sA, mK_sA, mS_sA, ix_n, ix_a, ix_m, ix_s, z_sw, z_stop, forall_const, true_implies, false_implies, imp_self, implies_true, not_true_eq_false, not_false_eq_true, ne_eq, eq_self, Option.some.injEq, reduceCtorEq, Nat.reduceAdd, Nat.reduceSub, Nat.reduceMul, Nat.reduceEqDiff, Nat.reduceLT, Nat.reduceLeDiff, Int.reduceAdd, Int.reduceMul, Int.reduceSub, Int.reduceNeg, Int.reduceToNat, Int.reduceLT, Int.reduceLE, Int.reduceEq, ↓reduceIte, List.reverse_cons, Option.toList, List.cons_append, List.nil_append, vI_inj, vL_inj, vO_inj, rI, rL, rO, rV, mI_sQ, mL_sQ, mK_sQ, mS_sQ, mQ_s1, mQ_s2, iL_and, iL_or, iL_xor, iL_shl, iL_ushr, iR_and, iR_or, iR_xor, iR_shl, iR_shr, iR_ushr, iR_cmp, yc0, tlX1_refusedRules, tkX1_refusedRules, o_aload, o_getI, o_getR, o_goto, o_iand, o_ic, o_iceq, o_icge, o_ifne, o_iinc, o_iload, o_iret, o_ishl, o_istore, o_ixor, o_putI, o_putZ, k2]
    try simp +contextual (disch := omega) only [impF, impT, and_true, true_and, implies_true, not_false_eq_true, not_true_eq_false]
    rw [← hQ]
    exact ⟨_, rfl, hK1.tr hK2, hr.1, hr.2⟩
  by_cases h9 : gI h1 o 9 = 0
  · obtain ⟨d1, d2, d3⟩ := hO1.act h31
    -- a heap whose Outcome is right but for 'refused'
    have hlo : ∀ (d i : Nat) (h2 : zH) (m : Int), i + d = 20 → OcK h1 h2 o A → gI h2 o 3 = 1 → gI h2 o 9 = 0 → (0 ≤ m ∧ m < 1048576) → tb m = rfS A i → z_X l G mtX1_refusedRules lv 0 0 (QQ) 0 0 (sI h2 o 8 m) 21 [vR o, vI i, vJ] [] := by
      intro d
      induction d with
      | zero =>
        intro i h2 m hi hK2 h32 h92 hm hmb
        obtain rfl : i = 20 := by omega
        have k2 := hK2.2.2.1.1.1
        have f3 : Fr (fun c => c = o) h2 (sI (sI h2 o 8 m) o 9 1) := (Fr_I1 _ _ _ _).tr' (Fr_I1 _ _ _ _) (fun _ q => q) (fun _ q => q)
        have e8 : gI (sI (sI h2 o 8 m) o 9 1) o 8 = m := by rw [mI_s2 _ _ (Or.inr (by omega)), mI_s1]
        have e9 : gI (sI (sI h2 o 8 m) o 9 1) o 9 = 1 := mI_s1 _ _ _ _
        have ei : ∀ k, k ≠ 8 → k ≠ 9 → gI (sI (sI h2 o 8 m) o 9 1) o k = gI h2 o k := fun k q1 q2 => by rw [mI_s2 _ _ (Or.inr q2), mI_s2 _ _ (Or.inr q1)]
        have eLL : gL (sI (sI h2 o 8 m) o 9 1) o = gL h2 o := by rw [mL_sI, mL_sI]
        have eR : gR (sI (sI h2 o 8 m) o 9 1) = gR h2 := rfl
        have hrun : z_X l G mtX1_refusedRules lv 0 0 QQ 0 0 (sI (sI h2 o 8 m) o 9 1) 73 [vR o, vJ, vJ] [] := by
          generalize sI (sI h2 o 8 m) o 9 1 = h3 at *
          have f4 : Fr (OcS o) h2 h3 := f3.mono (fun c q => by unfold OcS; omega)
          obtain ⟨⟨a1, a2, a3⟩, b1, b2, b3, b4, b5⟩ := hK2.2.2
          obtain ⟨c1, c2⟩ := oc_base ho ⟨a1, a2⟩ f4 eR
          have h9' : oc9 h3 o A := by unfold oc9; rw [e8]; exact ⟨hm, hmb⟩
          refine fin h3 (hK2.tr ⟨f4, eR, ⟨c1, c2, a3.fr f3 (by omega)⟩, ?_, ?_, ?_, ?_, ?_⟩) h9'
          · unfold fl oc3
            rw [ei 3 (by omega) (by omega), ei 2 (by omega) (by omega)]
            rcases b1 with q | q
            · exact Or.inl q
            · exact Or.inr ⟨q.1, q.2.1, q.2.2.1.fr f3 (fun c q1 q2 => by omega), q.2.2.2.fr f3 (by omega) (by omega)⟩
          · unfold fl oc5
            rw [ei 5 (by omega) (by omega), ei 3 (by omega) (by omega), eLL]
            exact b2
          · unfold fl oc7
            rw [ei 7 (by omega) (by omega), ei 3 (by omega) (by omega), eLL]
            exact b3
          · exact Or.inr ⟨e9, by rw [ei 3 (by omega) (by omega)]; exact h32, h9'⟩
          · unfold fl
            rw [ei 10 (by omega) (by omega), ei 5 (by omega) (by omega)]
            rcases b5 with q | ⟨q1, q2, t, q3, q4⟩
            · exact Or.inl q
            · exact Or.inr ⟨q1, q2, t, q3, q4.o (f3.I (by omega)) (f3.I (by omega)) (f3.I (by omega))⟩
        refine z_run1 tsX1_refusedRules [73] 20 ?_
        simp (maxSteps := 1000000) -implicitDefEqProofs +contextual (disch := omega) only [z_wp_t, z_wp_u, ↓pI_e, ↓pL_e, ↓pO_e, ↓pR_e, ↓p1_I, ↓p1_O, z_gl, z_st1, z_st2, z_nl_I, z_nl_O, z_nl_J, z_nl_L, if_true, if_false, ite_true, ite_false, true_and, and_true, List.mem_cons, List.not_mem_nil, or_false, false_or, or_self, List.length_cons, List.length_nil, InR_t, InL_t, z_ix_t, mI_s1, mI_s2, ↓brT, ↓brF, ↓brT', ↓brF', mL_sI, mR_sI, mK_sI, mS_sI, mI_sL, mL_s1, mL_s2, mR_sL, mK_sL, mS_sL, mI_sR, mL_sR, mR_s1, mR_s2, mK_sR, mS_sR, mA_s1, mA_s2, mL_sA, mR_sA, mK_sA, mS_sA, ix_n, ix_a, ix_m, ix_s, z_sw, z_stop, forall_const, true_implies, false_implies, imp_self, implies_true, not_true_eq_false, not_false_eq_true, ne_eq, eq_self, Option.some.injEq, reduceCtorEq, Nat.reduceAdd, Nat.reduceSub, Nat.reduceMul, Nat.reduceEqDiff, Nat.reduceLT, Nat.reduceLeDiff, Int.reduceAdd, Int.reduceMul, Int.reduceSub, Int.reduceNeg, Int.reduceToNat, Int.reduceLT, Int.reduceLE, Int.reduceEq, ↓reduceIte, List.reverse_cons, Option.toList, List.cons_append, List.nil_append, vI_inj, vL_inj, vO_inj, rI, rL, rO, rV, mI_sQ, mL_sQ, mK_sQ, mS_sQ, mQ_s1, mQ_s2, iL_and, iL_or, iL_xor, iL_shl, iL_ushr, iR_and, iR_or, iR_xor, iR_shl, iR_shr, iR_ushr, iR_cmp, yc0, tlX1_refusedRules, tkX1_refusedRules, o_aload, o_getI, o_getR, o_goto, o_iand, o_ic, o_iceq, o_icge, o_ifne, o_iinc, o_iload, o_iret, o_ishl, o_istore, o_ixor, o_putI, o_putZ, k2]
        try simp +contextual (disch := omega) only [impF, impT, and_true, true_and, implies_true, not_false_eq_true, not_true_eq_false]
        refine x_wk [vR o, vJ, vJ] (by simp [z_wk]) ?_
        exact hrun
      | succ d ih =>
        intro i h2 m hi hK2 h32 h92 hm hmb
        have k2 := hK2.2.2.1.1.1
        have r2 := hK2.2.2.1.1.2.2.2.2.2.2.1
        have hz := hK2.2.2.1.1.2.2.2.2.2.2.2.2.2.2.2
        obtain ⟨g1, g2, g3⟩ := hK2.2.2.act h32
        have hdel := tb_del (m := m) (r := i) (by omega)
        generalize hmm : z_and m (z_xor (z_shl 1 (i : Int)) (-1)) = m' at hdel
        have hm'R : InR m' := by rw [← hmm]; exact InR_and _ _
        have hmR : InR m := by unfold InR; omega
        have hm' : 0 ≤ m' ∧ m' < 1048576 := tb_small (n := 20) (by omega) hm'R (fun j h1 h2 => by rw [hdel]; simp [m20 hm h1])
        have e8 : gI (sI h2 o 8 m) o 8 = m := mI_s1 _ _ _ _
        have heq : m' = m ↔ tb m i = false := by
          constructor
          · intro q
            rw [q] at hdel
            rw [hdel]
            simp
          · intro q
            refine tb_ext hm'R hmR fun j _ => ?_
            rw [hdel]
            by_cases e : j = i
            · rw [e]; simp [q]
            · simp [e]
        cases hbi : tb m i
        · have he := heq.mpr hbi
          rw [he] at hmm
          have hnx := ih (i + 1) h2 m (by omega) hK2 h32 h92 hm (by simp only [rfS]; rw [← hmb, hbi]; rfl)
          refine z_run1 tsX1_refusedRules [21] 30 ?_
          simp (maxSteps := 1000000) -implicitDefEqProofs +contextual (disch := omega) only [z_wp_t, z_wp_u, ↓pI_e, ↓pL_e, ↓pO_e, ↓pR_e, ↓p1_I, ↓p1_O, z_gl, z_st1, z_st2, z_nl_I, z_nl_O, z_nl_J, z_nl_L, if_true, if_false, ite_true, ite_false, true_and, and_true, List.mem_cons, List.not_mem_nil, or_false, false_or, or_self, List.length_cons, List.length_nil, InR_t, InL_t, z_ix_t, mI_s1, mI_s2, ↓brT, ↓brF, ↓brT', ↓brF', mL_sI, mR_sI, mK_sI, mS_sI, mI_sL, mL_s1, mL_s2, mR_sL, mK_sL, mS_sL, mI_sR, mL_sR, mR_s1, mR_s2, mK_sR, mS_sR, mA_s1, mA_s2, mL_sA, mR_sA, mK_sA, mS_sA, ix_n, ix_a, ix_m, ix_s, z_sw, z_stop, forall_const, true_implies, false_implies, imp_self, implies_true, not_true_eq_false, not_false_eq_true, ne_eq, eq_self, Option.some.injEq, reduceCtorEq, Nat.reduceAdd, Nat.reduceSub, Nat.reduceMul, Nat.reduceEqDiff, Nat.reduceLT, Nat.reduceLeDiff, Int.reduceAdd, Int.reduceMul, Int.reduceSub, Int.reduceNeg, Int.reduceToNat, Int.reduceLT, Int.reduceLE, Int.reduceEq, ↓reduceIte, List.reverse_cons, Option.toList, List.cons_append, List.nil_append, vI_inj, vL_inj, vO_inj, rI, rL, rO, rV, mI_sQ, mL_sQ, mK_sQ, mS_sQ, mQ_s1, mQ_s2, iL_and, iL_or, iL_xor, iL_shl, iL_ushr, iR_and, iR_or, iR_xor, iR_shl, iR_shr, iR_ushr, iR_cmp, yc0, tlX1_refusedRules, tkX1_refusedRules, o_aload, o_getI, o_getR, o_goto, o_iand, o_ic, o_iceq, o_icge, o_ifne, o_iinc, o_iload, o_iret, o_ishl, o_istore, o_ixor, o_putI, o_putZ, k2, hmm, hmR]
          try simp +contextual (disch := omega) only [impF, impT, and_true, true_and, implies_true, not_false_eq_true, not_true_eq_false]
          refine x_wk [vR o, vI ((i + 1 : Nat) : Int), vJ] (by simp [z_wk]) ?_
          exact hnx
        · have he : ¬ m' = m := fun q => by rw [heq.mp q] at hbi; cases hbi
          have hmb2 : ∀ r, tb m' r = true → r < aC A := fun r hr => by
            rw [hdel] at hr
            simp at hr
            rw [hmb] at hr
            exact act_lt r (rfS_sub i r hr.1)
          have f1 : Fr (fun c => c = o) h2 (sI h2 o 8 m) := Fr_I1 _ _ _ _
          refine z_run1 tsX1_refusedRules [] 30 ?_
          simp (maxSteps := 1000000) -implicitDefEqProofs +contextual (disch := omega) only [z_wp_t, z_wp_u, ↓pI_e, ↓pL_e, ↓pO_e, ↓pR_e, ↓p1_I, ↓p1_O, z_gl, z_st1, z_st2, z_nl_I, z_nl_O, z_nl_J, z_nl_L, if_true, if_false, ite_true, ite_false, true_and, and_true, List.mem_cons, List.not_mem_nil, or_false, false_or, or_self, List.length_cons, List.length_nil, InR_t, InL_t, z_ix_t, mI_s1, mI_s2, ↓brT, ↓brF, ↓brT', ↓brF', mL_sI, mR_sI, mK_sI, mS_sI, mI_sL, mL_s1, mL_s2, mR_sL, mK_sL, mS_sL, mI_sR, mL_sR, mR_s1, mR_s2, mK_sR, mS_sR, mA_s1, mA_s2, mL_sA, mR_sA, mK_sA, mS_sA, ix_n, ix_a, ix_m, ix_s, z_sw, z_stop, forall_const, true_implies, false_implies, imp_self, implies_true, not_true_eq_false, not_false_eq_true, ne_eq, eq_self, Option.some.injEq, reduceCtorEq, Nat.reduceAdd, Nat.reduceSub, Nat.reduceMul, Nat.reduceEqDiff, Nat.reduceLT, Nat.reduceLeDiff, Int.reduceAdd, Int.reduceMul, Int.reduceSub, Int.reduceNeg, Int.reduceToNat, Int.reduceLT, Int.reduceLE, Int.reduceEq, ↓reduceIte, List.reverse_cons, Option.toList, List.cons_append, List.nil_append, vI_inj, vL_inj, vO_inj, rI, rL, rO, rV, mI_sQ, mL_sQ, mK_sQ, mS_sQ, mQ_s1, mQ_s2, iL_and, iL_or, iL_xor, iL_shl, iL_ushr, iR_and, iR_or, iR_xor, iR_shl, iR_shr, iR_ushr, iR_cmp, yc0, tlX1_refusedRules, tkX1_refusedRules, o_aload, o_getI, o_getR, o_goto, o_iand, o_ic, o_iceq, o_icge, o_ifne, o_iinc, o_iload, o_iret, o_ishl, o_istore, o_ixor, o_putI, o_putZ, k2, hmm, hmR, hm'R, he, r2]
          try simp +contextual (disch := omega) only [impF, impT, and_true, true_and, implies_true, not_false_eq_true, not_true_eq_false]
          refine x_callV (by decide +kernel) cv_X1_126 (sp_isSolvable l G (sI h2 o 8 m) (o + 6) m' A (hz.I _ _ _) (g2.fr f1 (fun c q1 q2 => by omega)) hA hm' hmb2 (g3.fr f1 (by omega) (by omega)) (hK2.2.2.1.2.2.fr f1 (by omega)) 12 (by omega)) hz.1 (by omega) rfl (by omega) (by omega) rfl (Nat.le_of_ble_eq_true rfl) ?_
          rintro r h3 ⟨rfl, hN⟩
          rw [hdel]
          -- h3 is a heap of the loop again
          have hN' : PzN h2 (sI h3 o 8 (gI h2 o 8)) (o + 6) A m' := by
            obtain ⟨a1, a2, a3, a4, a5, a6⟩ := hN
            have f3 : Fr (fun c => c = o) h3 (sI h3 o 8 (gI h2 o 8)) := Fr_I1 _ _ _ _
            refine ⟨?_, a2, a3.fr f3 (fun c q1 q2 => by omega), by rw [f3.I (by omega)]; exact a4, a5.fr f3 (by omega) (by omega), a6.fr f3 (by omega)⟩
            refine ⟨a1.1, fun c hc => ?_⟩
            by_cases e : c = o
            · subst e
              refine ⟨?_, by rw [mL_sI, a1.L (by omega), mL_sI], by rw [mR_sI, a2, mR_sI]⟩
              funext j
              by_cases ej : j = 8
              · rw [ej, mI_s1]
              · rw [mI_s2 _ _ (Or.inr ej), a1.I (by omega), mI_s2 _ _ (Or.inr ej)]
            · exact ⟨by rw [f3.I e, a1.I hc, f1.I e], by rw [f3.L e, a1.L hc, f1.L e], by rw [f3.R e, a1.R hc, f1.R e]⟩
          have hK3 := hK2.2.2.pz ho h32 hN' hm'
          have eI : gI (sI h3 o 8 (gI h2 o 8)) o = gI h2 o := hN'.1.I (by omega)
          have e83 : gI h3 o 8 = m := by rw [hN.1.I (by omega)]; exact e8
          have hback : ∀ w, sI (sI h3 o 8 (gI h2 o 8)) o 8 w = sI h3 o 8 w := fun w => sI_sI _ _ _ _ _
          have k3 : (gK h3 o).1 = 1 := hK3.2.2.1.1.1
          cases hs : slv A (fun r => tb m r && decide (r ≠ i))
          · have hnx := ih (i + 1) (sI h3 o 8 (gI h2 o 8)) m' (by omega) (hK2.tr hK3) (by rw [eI]; exact h32) (by rw [eI]; exact h92) hm' (by simp only [rfS]; rw [← hmb, hbi, hs, hdel]; rfl)
            rw [hback] at hnx
            refine z_run1 tsX1_refusedRules [21] 30 ?_
            simp (maxSteps := 1000000) -implicitDefEqProofs +contextual (disch := omega) only [z_wp_t, z_wp_u, ↓pI_e, ↓pL_e, ↓pO_e, ↓pR_e, ↓p1_I, ↓p1_O, z_gl, z_st1, z_st2, z_nl_I, z_nl_O, z_nl_J, z_nl_L, if_true, if_false, ite_true, ite_false, true_and, and_true, List.mem_cons, List.not_mem_nil, or_false, false_or, or_self, List.length_cons, List.length_nil, InR_t, InL_t, z_ix_t, mI_s1, mI_s2, ↓brT, ↓brF, ↓brT', ↓brF', mL_sI, mR_sI, mK_sI, mS_sI, mI_sL, mL_s1, mL_s2, mR_sL, mK_sL, mS_sL, mI_sR, mL_sR, mR_s1, mR_s2, mK_sR, mS_sR, mA_s1, mA_s2, mL_sA, mR_sA, mK_sA, mS_sA, ix_n, ix_a, ix_m, ix_s, z_sw, z_stop, forall_const, true_implies, false_implies, imp_self, implies_true, not_true_eq_false, not_false_eq_true, ne_eq, eq_self, Option.some.injEq, reduceCtorEq, Nat.reduceAdd, Nat.reduceSub, Nat.reduceMul, Nat.reduceEqDiff, Nat.reduceLT, Nat.reduceLeDiff, Int.reduceAdd, Int.reduceMul, Int.reduceSub, Int.reduceNeg, Int.reduceToNat, Int.reduceLT, Int.reduceLE, Int.reduceEq, ↓reduceIte, List.reverse_cons, Option.toList, List.cons_append, List.nil_append, vI_inj, vL_inj, vO_inj, rI, rL, rO, rV, mI_sQ, mL_sQ, mK_sQ, mS_sQ, mQ_s1, mQ_s2, iL_and, iL_or, iL_xor, iL_shl, iL_ushr, iR_and, iR_or, iR_xor, iR_shl, iR_shr, iR_ushr, iR_cmp, yc0, tlX1_refusedRules, tkX1_refusedRules, o_aload, o_getI, o_getR, o_goto, o_iand, o_ic, o_iceq, o_icge, o_ifne, o_iinc, o_iload, o_iret, o_ishl, o_istore, o_ixor, o_putI, o_putZ, k3]
            try simp +contextual (disch := omega) only [impF, impT, and_true, true_and, implies_true, not_false_eq_true, not_true_eq_false]
            refine x_wk [vR o, vI ((i + 1 : Nat) : Int), vJ] (by simp [z_wk]) ?_
            exact hnx
          · have hnx := ih (i + 1) (sI h3 o 8 (gI h2 o 8)) m (by omega) (hK2.tr hK3) (by rw [eI]; exact h32) (by rw [eI]; exact h92) hm (by simp only [rfS]; rw [← hmb, hbi, hs]; rfl)
            rw [hback, ← e83, sI_slf] at hnx
            refine z_run1 tsX1_refusedRules [21] 30 ?_
            simp (maxSteps := 1000000) -implicitDefEqProofs +contextual (disch := omega) only [z_wp_t, z_wp_u, ↓pI_e, ↓pL_e, ↓pO_e, ↓pR_e, ↓p1_I, ↓p1_O, z_gl, z_st1, z_st2, z_nl_I, z_nl_O, z_nl_J, z_nl_L, if_true, if_false, ite_true, ite_false, true_and, and_true, List.mem_cons, List.not_mem_nil, or_false, false_or, or_self, List.length_cons, List.length_nil, InR_t, InL_t, z_ix_t, mI_s1, mI_s2, ↓brT, ↓brF, ↓brT', ↓brF', mL_sI, mR_sI, mK_sI, mS_sI, mI_sL, mL_s1, mL_s2, mR_sL, mK_sL, mS_sL, mI_sR, mL_sR, mR_s1, mR_s2, mK_sR, mS_sR, mA_s1, mA_s2, mL_sA, mR_sA, mK_sA, mS_sA, ix_n, ix_a, ix_m, ix_s, z_sw, z_stop, forall_const, true_implies, false_implies, imp_self, implies_true, not_true_eq_false, not_false_eq_true, ne_eq, eq_self, Option.some.injEq, reduceCtorEq, Nat.reduceAdd, Nat.reduceSub, Nat.reduceMul, Nat.reduceEqDiff, Nat.reduceLT, Nat.reduceLeDiff, Int.reduceAdd, Int.reduceMul, Int.reduceSub, Int.reduceNeg, Int.reduceToNat, Int.reduceLT, Int.reduceLE, Int.reduceEq, ↓reduceIte, List.reverse_cons, Option.toList, List.cons_append, List.nil_append, vI_inj, vL_inj, vO_inj, rI, rL, rO, rV, mI_sQ, mL_sQ, mK_sQ, mS_sQ, mQ_s1, mQ_s2, iL_and, iL_or, iL_xor, iL_shl, iL_ushr, iR_and, iR_or, iR_xor, iR_shl, iR_shr, iR_ushr, iR_cmp, yc0, tlX1_refusedRules, tkX1_refusedRules, o_aload, o_getI, o_getR, o_goto, o_iand, o_ic, o_iceq, o_icge, o_ifne, o_iinc, o_iload, o_iret, o_ishl, o_istore, o_ixor, o_putI, o_putZ, k3]
            try simp +contextual (disch := omega) only [impF, impT, and_true, true_and, implies_true, not_false_eq_true, not_true_eq_false]
            refine x_wk [vR o, vI ((i + 1 : Nat) : Int), vJ] (by simp [z_wk]) ?_
            exact hnx
    have h0 := hlo 20 0 h1 (actM A (aC A)) (by omega) (OcK.rf hO1) h31 h9 (act_R hA) (tb_act hA)
    refine z_run1 tsX1_refusedRules [21] 30 ?_
    simp (maxSteps := 1000000) -implicitDefEqProofs +contextual (disch := omega) only [z_wp_t, z_wp_u, ↓pI_e, ↓pL_e, ↓pO_e, ↓pR_e, ↓p1_I, ↓p1_O, z_gl, z_st1, z_st2, z_nl_I, z_nl_O, z_nl_J, z_nl_L, if_true, if_false, ite_true, ite_false, true_and, and_true, List.mem_cons, List.not_mem_nil, or_false, false_or, or_self, List.length_cons, List.length_nil, InR_t, InL_t, z_ix_t, mI_s1, mI_s2, ↓brT, ↓brF, ↓brT', ↓brF', mL_sI, mR_sI, mK_sI, mS_sI, mI_sL, mL_s1, mL_s2, mR_sL, mK_sL, mS_sL, mI_sR, mL_sR, mR_s1, mR_s2, mK_sR, mS_sR, mA_s1, mA_s2, mL_sA, mR_sA, mK_sA, mS_sA, ix_n, ix_a, ix_m, ix_s, z_sw, z_stop, forall_const, true_implies, false_implies, imp_self, implies_true, not_true_eq_false, not_false_eq_true, ne_eq, eq_self, Option.some.injEq, reduceCtorEq, Nat.reduceAdd, Nat.reduceSub, Nat.reduceMul, Nat.reduceEqDiff, Nat.reduceLT, Nat.reduceLeDiff, Int.reduceAdd, Int.reduceMul, Int.reduceSub, Int.reduceNeg, Int.reduceToNat, Int.reduceLT, Int.reduceLE, Int.reduceEq, ↓reduceIte, List.reverse_cons, Option.toList, List.cons_append, List.nil_append, vI_inj, vL_inj, vO_inj, rI, rL, rO, rV, mI_sQ, mL_sQ, mK_sQ, mS_sQ, mQ_s1, mQ_s2, iL_and, iL_or, iL_xor, iL_shl, iL_ushr, iR_and, iR_or, iR_xor, iR_shl, iR_shr, iR_ushr, iR_cmp, yc0, tlX1_refusedRules, tkX1_refusedRules, o_aload, o_getI, o_getR, o_goto, o_iand, o_ic, o_iceq, o_icge, o_ifne, o_iinc, o_iload, o_iret, o_ishl, o_istore, o_ixor, o_putI, o_putZ, k1, h9, d1]
    try simp +contextual (disch := omega) only [impF, impT, and_true, true_and, implies_true, not_false_eq_true, not_true_eq_false]
    exact h0
  · have h91 : gI h1 o 9 = 1 := by have := hO1.f01.2.2.2.1; omega
    have hr : oc9 h1 o A := by
      rcases hO1.2.2.2.2.1 with q | q
      · omega
      · exact q.2.2
    have hf := fin h1 (OcK.rf hO1) hr
    refine z_run1 tsX1_refusedRules [73] 20 ?_
    simp (maxSteps := 1000000) -implicitDefEqProofs +contextual (disch := omega) only [z_wp_t, z_wp_u, ↓pI_e, ↓pL_e, ↓pO_e, ↓pR_e, ↓p1_I, ↓p1_O, z_gl, z_st1, z_st2, z_nl_I, z_nl_O, z_nl_J, z_nl_L, if_true, if_false, ite_true, ite_false, true_and, and_true, List.mem_cons, List.not_mem_nil, or_false, false_or, or_self, List.length_cons, List.length_nil, InR_t, InL_t, z_ix_t, mI_s1, mI_s2, ↓brT, ↓brF, ↓brT', ↓brF', mL_sI, mR_sI, mK_sI, mS_sI, mI_sL, mL_s1, mL_s2, mR_sL, mK_sL, mS_sL, mI_sR, mL_sR, mR_s1, mR_s2, mK_sR, mS_sR, mA_s1, mA_s2, mL_sA, mR_sA, mK_sA, mS_sA, ix_n, ix_a, ix_m, ix_s, z_sw, z_stop, forall_const, true_implies, false_implies, imp_self, implies_true, not_true_eq_false, not_false_eq_true, ne_eq, eq_self, Option.some.injEq, reduceCtorEq, Nat.reduceAdd, Nat.reduceSub, Nat.reduceMul, Nat.reduceEqDiff, Nat.reduceLT, Nat.reduceLeDiff, Int.reduceAdd, Int.reduceMul, Int.reduceSub, Int.reduceNeg, Int.reduceToNat, Int.reduceLT, Int.reduceLE, Int.reduceEq, ↓reduceIte, List.reverse_cons, Option.toList, List.cons_append, List.nil_append, vI_inj, vL_inj, vO_inj, rI, rL, rO, rV, mI_sQ, mL_sQ, mK_sQ, mS_sQ, mQ_s1, mQ_s2, iL_and, iL_or, iL_xor, iL_shl, iL_ushr, iR_and, iR_or, iR_xor, iR_shl, iR_shr, iR_ushr, iR_cmp, yc0, tlX1_refusedRules, tkX1_refusedRules, o_aload, o_getI, o_getR, o_goto, o_iand, o_ic, o_iceq, o_icge, o_ifne, o_iinc, o_iload, o_iret, o_ishl, o_istore, o_ixor, o_putI, o_putZ, k1, h91]
    try simp +contextual (disch := omega) only [impF, impT, and_true, true_and, implies_true, not_false_eq_true, not_true_eq_false]
    exact hf
