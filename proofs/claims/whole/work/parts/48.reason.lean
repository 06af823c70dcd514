/-! Outcome.findReasons, reasonLength, reasonAt -/
theorem BH.ext {A : zA} {t : Nat → Nat} {P P' : Nat → List Nat} {c : Int} {W : List Nat} {n : Nat} (h : BH A t P c W n) (he : ∀ q, P q ≠ [] → P' q = P q) : BH A t P' c W n := fun r hr h1 h2 => by
  obtain ⟨g1, g2⟩ := h r hr h1 h2
  rw [he _ g1]
  exact ⟨g1, g2⟩
set_option maxRecDepth 4000 in
set_option maxHeartbeats 4000000 in
theorem sp_findReasons (l : Launch) (G : zG) (h : zH) (o : Nat) (A : zA) (t : Nat → Nat) (hO : OcOK h o A) (hA : AOK A) (h5 : gI h o 5 = 1) (ht : bestA A = some t) (ho : o + 15 < 109) (lv : Nat) (hlv : 4 ≤ lv) : z_Sp l G mtX1_findReasons lv 0 0 [vR o] (h) (fun r h' => r = none ∧ OcK h h' o A ∧ gI h' o 5 = 1 ∧ gI h' o 10 = 1) := by
  have k0 := hO.1.1.1
  obtain ⟨⟨b1, b2⟩, h3⟩ := hO.best h5
  rw [ht] at b2
  obtain ⟨hs, h4⟩ := best_sol ht
  have hy0 := Enc_ne b2 h4
  have k14 := hO.1.1.2.2.2.1
  have k15 := hO.1.1.2.2.2.2.1
  have r13 := hO.1.1.2.2.2.2.2.2.2.2.2.1
  have r14 := hO.1.1.2.2.2.2.2.2.2.2.2.2.1
  refine x_enter [vR o, vJ, vJ] (by decide +kernel) (by omega) rfl (Nat.le_of_ble_eq_true rfl) ?_
  generalize hQ : (fun (r : Option zV) (h' : zH) => r = none ∧ OcK h h' o A ∧ gI h' o 5 = 1 ∧ gI h' o 10 = 1) = QQ
  by_cases h10 : gI h o 10 = 0
  · have hst : ∀ (h1 : zH), Fr (fun a => o + 12 ≤ a ∧ a ≤ o + 15) (sI h o 10 1) h1 → gR h1 = gR h → OcR h1 o A t := fun h1 f1 hR1 => by
      have f0 : Fr (fun c => c = o) h (sI h o 10 1) := Fr_I1 _ _ _ _
      obtain ⟨d1, d2, d3⟩ := hO.act h3
      refine OcR.fr f1 (by rw [hR1, mR_sI]) ho ⟨hO.1.1.ofR f0.K rfl rfl, hO.1.2.1.fr f0 (fun q hq => by omega) (fun q q1 q2 => by omega), ⟨by rw [mI_s2 _ _ (Or.inr (by omega))]; exact d1, d2.fr f0 (fun c q1 q2 => by omega), d3.fr f0 (by omega) (by omega)⟩, by rw [mL_sI]; exact b2⟩
    have fin : ∀ (h1 : zH), Fr (fun a => o + 12 ≤ a ∧ a ≤ o + 15) (sI h o 10 1) h1 → gR h1 = gR h → BfOK h1 o A t → QQ none h1 := fun h1 f1 hR1 hb => by
      have f0 : Fr (fun c => c = o) h (sI h o 10 1) := Fr_I1 _ _ _ _
      have f2 : Fr (OcS o) h h1 := f0.tr' f1 (fun c q => by unfold OcS; omega) (fun c q => by unfold OcS; omega)
      have eL : gL h1 o = gL h o := by rw [f1.L (by omega), mL_sI]
      have ei : ∀ k, k ≠ 10 → gI h1 o k = gI h o k := fun k hk => by rw [f1.I (by omega), mI_s2 _ _ (Or.inr hk)]
      have e10 : gI h1 o 10 = 1 := by rw [f1.I (by omega), mI_s1]
      obtain ⟨⟨a1, a2, a3⟩, c1, c2, c3, c4, c5⟩ := hO
      obtain ⟨g1, g2⟩ := oc_base ho ⟨a1, a2⟩ f2 hR1
      rw [← hQ]
      refine ⟨rfl, ⟨f2, hR1, ⟨g1, g2, (a3.fr f0 (by omega)).fr f1 (by omega)⟩, ?_, ?_, ?_, ?_, ?_⟩, by rw [ei 5 (by omega)]; exact h5, e10⟩
      · unfold fl oc3
        rw [ei 3 (by omega), ei 2 (by omega)]
        rcases c1 with q | q
        · exact Or.inl q
        · exact Or.inr ⟨q.1, q.2.1, (q.2.2.1.fr f0 (fun c q1 q2 => by omega)).fr f1 (fun c q1 q2 => by omega), (q.2.2.2.fr f0 (by omega) (by omega)).fr f1 (by omega) (by omega)⟩
      · unfold fl oc5
        rw [ei 5 (by omega), ei 3 (by omega), eL]
        exact c2
      · unfold fl oc7
        rw [ei 7 (by omega), ei 3 (by omega), eL]
        exact c3
      · unfold fl oc9
        rw [ei 9 (by omega), ei 3 (by omega), ei 8 (by omega)]
        exact c4
      · exact Or.inr ⟨e10, by rw [ei 5 (by omega)]; exact h5, t, ht, hb⟩
    have lo2 : ∀ (d i : Nat) (h1 : zH) (m : Nat) (P : Nat → List Nat) (Q : Nat → Nat), i + d = 8 → Fr (fun a => o + 12 ≤ a ∧ a ≤ o + 15) (sI h o 10 1) h1 → gR h1 = gR h → BI h1 o A t m P Q → i ≤ m → BG P (if i = 0 then [] else P (Q (i - 1))) 20 → BH A t P (-1) [] 20 → (∀ j, j < i → BH A t P (Q j : Int) (P (Q j)) 20) → z_X l G mtX1_findReasons lv 0 0 (QQ) 0 0 (h1) 59 [vR o, vI m, vI i] [] := by
      intro d
      induction d with
      | zero =>
        intro i h1 m P Q hi f1 hR1 hB him hg h0 hj
        have hm8 := hB.lt.1
        refine z_run1 tsX1_findReasons [] 20 ?_
        simp (maxSteps := 1000000) -implicitDefEqProofs +contextual (disch := omega) only [z_wp_t, z_wp_u, ↓pI_e, ↓pL_e, ↓pO_e, ↓pR_e, ↓p1_I, ↓p1_O, z_gl, z_st1, z_st2, z_nl_I, z_nl_O, z_nl_J, z_nl_L, if_true, if_false, ite_true, ite_false, true_and, and_true, List.mem_cons, List.not_mem_nil, or_false, false_or, or_self, List.length_cons, List.length_nil, InR_t, InL_t, z_ix_t, mI_s1, mI_s2, ↓brT, ↓brF, ↓brT', ↓brF', mL_sI, mR_sI, mK_sI, mS_sI, mI_sL, mL_s1, mL_s2, mR_sL, mK_sL, mS_sL, mI_sR, mL_sR, mR_s1, mR_s2, mK_sR, mS_sR, mA_s1, mA_s2, mL_sA, mR_sA, mK_sA, mS_sA, ix_n, ix_a, ix_m, ix_s, z_sw, z_stop, forall_const, true_implies, false_implies, imp_self, implies_true, not_true_eq_false, not_false_eq_true, ne_eq, eq_self, Option.some.injEq, reduceCtorEq, Nat.reduceAdd, Nat.reduceSub, Nat.reduceMul, Nat.reduceEqDiff, Nat.reduceLT, Nat.reduceLeDiff, Int.reduceAdd, Int.reduceMul, Int.reduceSub, Int.reduceNeg, Int.reduceToNat, Int.reduceLT, Int.reduceLE, Int.reduceEq, ↓reduceIte, List.reverse_cons, Option.toList, List.cons_append, List.nil_append, vI_inj, vL_inj, vO_inj, rI, rL, rO, rV, mI_sQ, mL_sQ, mK_sQ, mS_sQ, mQ_s1, mQ_s2, iL_and, iL_or, iL_xor, iL_shl, iL_ushr, iR_and, iR_or, iR_xor, iR_shl, iR_shr, iR_ushr, iR_cmp, yc0, tlX1_findReasons, tkX1_findReasons, o_aload, o_getI, o_getL, o_getR, o_goto, o_iald, o_iast, o_ic, o_icge, o_ifeq, o_ifne, o_iinc, o_iload, o_istore, o_lc, o_lcmp, o_putZ, o_vret]
        try simp +contextual (disch := omega) only [impF, impT, and_true, true_and, implies_true, not_false_eq_true, not_true_eq_false]
        exact fin h1 f1 hR1 (hB.fin hA h0 (fun j hjm => hj j (by omega)))
      | succ d ih =>
        intro i h1 m P Q hi f1 hR1 hB him hg h0 hj
        have hm8 := hB.lt.1
        by_cases hlt : i < m
        · obtain ⟨q1, q2, q3⟩ := hB.2.1 i hlt
          have k0' : (gK h1 o).1 = 1 := by rw [f1.K]; exact k0
          have k15' : gK h1 (o + 15) = (9, 8) := by rw [f1.K]; exact k15
          have r14' : gR h1 o 14 = some (o + 15) := by rw [hR1]; exact r14
          have hfr : pLt (if i = 0 then [] else P (Q (i - 1))) (P (Q i)) := by
            by_cases e : i = 0
            · rw [if_pos e]
              refine Or.inl ?_
              have : (P (Q i)).length ≠ 0 := fun q => q3 (List.length_eq_zero_iff.mp q)
              simp only [List.length_nil]
              omega
            · rw [if_neg e]
              exact hB.2.2.2.1 (i - 1) i (by omega) hlt
          have hg0 : BG P (P (Q i)) 0 := fun q hq hp r' _ => (hg q hq hp 20 (Nat.le_refl _)).tr (hfr.snoc 20 r')
          refine z_run1 tsX1_findReasons [] 20 ?_
          simp (maxSteps := 1000000) -implicitDefEqProofs +contextual (disch := omega) only [z_wp_t, z_wp_u, ↓pI_e, ↓pL_e, ↓pO_e, ↓pR_e, ↓p1_I, ↓p1_O, z_gl, z_st1, z_st2, z_nl_I, z_nl_O, z_nl_J, z_nl_L, if_true, if_false, ite_true, ite_false, true_and, and_true, List.mem_cons, List.not_mem_nil, or_false, false_or, or_self, List.length_cons, List.length_nil, InR_t, InL_t, z_ix_t, mI_s1, mI_s2, ↓brT, ↓brF, ↓brT', ↓brF', mL_sI, mR_sI, mK_sI, mS_sI, mI_sL, mL_s1, mL_s2, mR_sL, mK_sL, mS_sL, mI_sR, mL_sR, mR_s1, mR_s2, mK_sR, mS_sR, mA_s1, mA_s2, mL_sA, mR_sA, mK_sA, mS_sA, ix_n, ix_a, ix_m, ix_s, z_sw, z_stop, forall_const, true_implies, false_implies, imp_self, implies_true, not_true_eq_false, not_false_eq_true, ne_eq, eq_self, Option.some.injEq, reduceCtorEq, Nat.reduceAdd, Nat.reduceSub, Nat.reduceMul, Nat.reduceEqDiff, Nat.reduceLT, Nat.reduceLeDiff, Int.reduceAdd, Int.reduceMul, Int.reduceSub, Int.reduceNeg, Int.reduceToNat, Int.reduceLT, Int.reduceLE, Int.reduceEq, ↓reduceIte, List.reverse_cons, Option.toList, List.cons_append, List.nil_append, vI_inj, vL_inj, vO_inj, rI, rL, rO, rV, mI_sQ, mL_sQ, mK_sQ, mS_sQ, mQ_s1, mQ_s2, iL_and, iL_or, iL_xor, iL_shl, iL_ushr, iR_and, iR_or, iR_xor, iR_shl, iR_shr, iR_ushr, iR_cmp, yc0, tlX1_findReasons, tkX1_findReasons, o_aload, o_getI, o_getL, o_getR, o_goto, o_iald, o_iast, o_ic, o_icge, o_ifeq, o_ifne, o_iinc, o_iload, o_istore, o_lc, o_lcmp, o_putZ, o_vret, k0', k15', r14', q2]
          try simp +contextual (disch := omega) only [impF, impT, and_true, true_and, implies_true, not_false_eq_true, not_true_eq_false]
          refine x_callV (by decide +kernel) cv_X1_138 (sp_reachFrom l G h1 o m (Q i : Int) A t (P (Q i)) P Q (hst h1 f1 hR1) hA ht hB hg0 (Or.inr ⟨Q i, q1, rfl, rfl, q3⟩) ho 3 (by omega)) k0' (by omega) rfl (by omega) (by omega) rfl (Nat.le_of_ble_eq_true rfl) ?_
          rintro r h2 ⟨m2, P2, Q2, rfl, f2, hR2, hB2, hg2, hH2, hmm, hP2, hQ2⟩
          have eQ : ∀ j, j < m → P2 (Q2 j) = P (Q j) := fun j hj => by rw [hQ2 j hj]; exact hP2 _ (hB.2.1 j hj).2.2
          have hnx := ih (i + 1) h2 m2 P2 Q2 (by omega) (f1.tr' f2 (fun _ q => q) (fun _ q => q)) (hR2.trans hR1) hB2 (by omega) (by rw [if_neg (by omega), Nat.add_sub_cancel, eQ i hlt]; exact hg2) (h0.ext hP2) (fun j hj2 => by
            rw [eQ j (by omega), hQ2 j (by omega)]
            by_cases e : j = i
            · rw [e]; exact hH2
            · exact (hj j (by omega)).ext hP2)
          refine z_run1 tsX1_findReasons [59] 20 ?_
          simp (maxSteps := 1000000) -implicitDefEqProofs +contextual (disch := omega) only [z_wp_t, z_wp_u, ↓pI_e, ↓pL_e, ↓pO_e, ↓pR_e, ↓p1_I, ↓p1_O, z_gl, z_st1, z_st2, z_nl_I, z_nl_O, z_nl_J, z_nl_L, if_true, if_false, ite_true, ite_false, true_and, and_true, List.mem_cons, List.not_mem_nil, or_false, false_or, or_self, List.length_cons, List.length_nil, InR_t, InL_t, z_ix_t, mI_s1, mI_s2, ↓brT, ↓brF, ↓brT', ↓brF', mL_sI, mR_sI, mK_sI, mS_sI, mI_sL, mL_s1, mL_s2, mR_sL, mK_sL, mS_sL, mI_sR, mL_sR, mR_s1, mR_s2, mK_sR, mS_sR, mA_s1, mA_s2, mL_sA, mR_sA, mK_sA, mS_sA, ix_n, ix_a, ix_m, ix_s, z_sw, z_stop, forall_const, true_implies, false_implies, imp_self, implies_true, not_true_eq_false, not_false_eq_true, ne_eq, eq_self, Option.some.injEq, reduceCtorEq, Nat.reduceAdd, Nat.reduceSub, Nat.reduceMul, Nat.reduceEqDiff, Nat.reduceLT, Nat.reduceLeDiff, Int.reduceAdd, Int.reduceMul, Int.reduceSub, Int.reduceNeg, Int.reduceToNat, Int.reduceLT, Int.reduceLE, Int.reduceEq, ↓reduceIte, List.reverse_cons, Option.toList, List.cons_append, List.nil_append, vI_inj, vL_inj, vO_inj, rI, rL, rO, rV, mI_sQ, mL_sQ, mK_sQ, mS_sQ, mQ_s1, mQ_s2, iL_and, iL_or, iL_xor, iL_shl, iL_ushr, iR_and, iR_or, iR_xor, iR_shl, iR_shr, iR_ushr, iR_cmp, yc0, tlX1_findReasons, tkX1_findReasons, o_aload, o_getI, o_getL, o_getR, o_goto, o_iald, o_iast, o_ic, o_icge, o_ifeq, o_ifne, o_iinc, o_iload, o_istore, o_lc, o_lcmp, o_putZ, o_vret]
          try simp +contextual (disch := omega) only [impF, impT, and_true, true_and, implies_true, not_false_eq_true, not_true_eq_false]
          exact hnx
        · refine z_run1 tsX1_findReasons [] 20 ?_
          simp (maxSteps := 1000000) -implicitDefEqProofs +contextual (disch := omega) only [z_wp_t, z_wp_u, ↓pI_e, ↓pL_e, ↓pO_e, ↓pR_e, ↓p1_I, ↓p1_O, z_gl, z_st1, z_st2, z_nl_I, z_nl_O, z_nl_J, z_nl_L, if_true, if_false, ite_true, ite_false, true_and, and_true, List.mem_cons, List.not_mem_nil, or_false, false_or, or_self, List.length_cons, List.length_nil, InR_t, InL_t, z_ix_t, mI_s1, mI_s2, ↓brT, ↓brF, ↓brT', ↓brF', mL_sI, mR_sI, mK_sI, mS_sI, mI_sL, mL_s1, mL_s2, mR_sL, mK_sL, mS_sL, mI_sR, mL_sR, mR_s1, mR_s2, mK_sR, mS_sR, mA_s1, mA_s2, mL_sA, mR_sA, mK_sA, mS_sA, ix_n, ix_a, ix_m, ix_s, z_sw, z_stop, forall_const, true_implies, false_implies, imp_self, implies_true, not_true_eq_false, not_false_eq_true, ne_eq, eq_self, Option.some.injEq, reduceCtorEq, Nat.reduceAdd, Nat.reduceSub, Nat.reduceMul, Nat.reduceEqDiff, Nat.reduceLT, Nat.reduceLeDiff, Int.reduceAdd, Int.reduceMul, Int.reduceSub, Int.reduceNeg, Int.reduceToNat, Int.reduceLT, Int.reduceLE, Int.reduceEq, ↓reduceIte, List.reverse_cons, Option.toList, List.cons_append, List.nil_append, vI_inj, vL_inj, vO_inj, rI, rL, rO, rV, mI_sQ, mL_sQ, mK_sQ, mS_sQ, mQ_s1, mQ_s2, iL_and, iL_or, iL_xor, iL_shl, iL_ushr, iR_and, iR_or, iR_xor, iR_shl, iR_shr, iR_ushr, iR_cmp, yc0, tlX1_findReasons, tkX1_findReasons, o_aload, o_getI, o_getL, o_getR, o_goto, o_iald, o_iast, o_ic, o_icge, o_ifeq, o_ifne, o_iinc, o_iload, o_istore, o_lc, o_lcmp, o_putZ, o_vret]
          try simp +contextual (disch := omega) only [impF, impT, and_true, true_and, implies_true, not_false_eq_true, not_true_eq_false]
          exact fin h1 f1 hR1 (hB.fin hA h0 (fun j hjm => hj j (by omega)))
    have lo1 : ∀ (d i : Nat) (h1 : zH), i + d = 8 → Fr (fun a => o + 12 ≤ a ∧ a ≤ o + 15) (sI h o 10 1) h1 → gR h1 = gR h → (∀ q, q < i → gI h1 (o + 14) q = 0) → z_X l G mtX1_findReasons lv 0 0 (QQ) 0 0 (h1) 31 [vR o, vI i, vJ] [] := by
      intro d
      induction d with
      | zero =>
        intro i h1 hi f1 hR1 hz
        have k0' : (gK h1 o).1 = 1 := by rw [f1.K]; exact k0
        have hB : BI h1 o A t 0 (fun _ => []) (fun _ => 0) := ⟨fun q hq => by rw [hz q (by omega)]; rfl, fun j hj => by omega, fun q hq hp => absurd rfl hp, fun i j h1 h2 => by omega, fun q hq hp => absurd rfl hp, fun q hq hp => absurd rfl hp, by simp [cnt], fun j hj => by omega⟩
        refine z_run1 tsX1_findReasons [] 20 ?_
        simp (maxSteps := 1000000) -implicitDefEqProofs +contextual (disch := omega) only [z_wp_t, z_wp_u, ↓pI_e, ↓pL_e, ↓pO_e, ↓pR_e, ↓p1_I, ↓p1_O, z_gl, z_st1, z_st2, z_nl_I, z_nl_O, z_nl_J, z_nl_L, if_true, if_false, ite_true, ite_false, true_and, and_true, List.mem_cons, List.not_mem_nil, or_false, false_or, or_self, List.length_cons, List.length_nil, InR_t, InL_t, z_ix_t, mI_s1, mI_s2, ↓brT, ↓brF, ↓brT', ↓brF', mL_sI, mR_sI, mK_sI, mS_sI, mI_sL, mL_s1, mL_s2, mR_sL, mK_sL, mS_sL, mI_sR, mL_sR, mR_s1, mR_s2, mK_sR, mS_sR, mA_s1, mA_s2, mL_sA, mR_sA, mK_sA, mS_sA, ix_n, ix_a, ix_m, ix_s, z_sw, z_stop, forall_const, true_implies, false_implies, imp_self, implies_true, not_true_eq_false, not_false_eq_true, ne_eq, eq_self, Option.some.injEq, reduceCtorEq, Nat.reduceAdd, Nat.reduceSub, Nat.reduceMul, Nat.reduceEqDiff, Nat.reduceLT, Nat.reduceLeDiff, Int.reduceAdd, Int.reduceMul, Int.reduceSub, Int.reduceNeg, Int.reduceToNat, Int.reduceLT, Int.reduceLE, Int.reduceEq, ↓reduceIte, List.reverse_cons, Option.toList, List.cons_append, List.nil_append, vI_inj, vL_inj, vO_inj, rI, rL, rO, rV, mI_sQ, mL_sQ, mK_sQ, mS_sQ, mQ_s1, mQ_s2, iL_and, iL_or, iL_xor, iL_shl, iL_ushr, iR_and, iR_or, iR_xor, iR_shl, iR_shr, iR_ushr, iR_cmp, yc0, tlX1_findReasons, tkX1_findReasons, o_aload, o_getI, o_getL, o_getR, o_goto, o_iald, o_iast, o_ic, o_icge, o_ifeq, o_ifne, o_iinc, o_iload, o_istore, o_lc, o_lcmp, o_putZ, o_vret]
        try simp +contextual (disch := omega) only [impF, impT, and_true, true_and, implies_true, not_false_eq_true, not_true_eq_false]
        refine x_callV (by decide +kernel) cv_X1_138 (sp_reachFrom l G h1 o 0 (-1) A t [] (fun _ => []) (fun _ => 0) (hst h1 f1 hR1) hA ht hB (fun q hq hp => absurd rfl hp) (Or.inl ⟨rfl, rfl⟩) ho 3 (by omega)) k0' (by omega) rfl (by omega) (by omega) rfl (Nat.le_of_ble_eq_true rfl) ?_
        rintro r h2 ⟨m2, P2, Q2, rfl, f2, hR2, hB2, hg2, hH2, hmm, hP2, hQ2⟩
        have hnx := lo2 8 0 h2 m2 P2 Q2 (by omega) (f1.tr' f2 (fun _ q => q) (fun _ q => q)) (hR2.trans hR1) hB2 (by omega) hg2 hH2 (fun j hj => by omega)
        refine z_run1 tsX1_findReasons [59] 20 ?_
        simp (maxSteps := 1000000) -implicitDefEqProofs +contextual (disch := omega) only [z_wp_t, z_wp_u, ↓pI_e, ↓pL_e, ↓pO_e, ↓pR_e, ↓p1_I, ↓p1_O, z_gl, z_st1, z_st2, z_nl_I, z_nl_O, z_nl_J, z_nl_L, if_true, if_false, ite_true, ite_false, true_and, and_true, List.mem_cons, List.not_mem_nil, or_false, false_or, or_self, List.length_cons, List.length_nil, InR_t, InL_t, z_ix_t, mI_s1, mI_s2, ↓brT, ↓brF, ↓brT', ↓brF', mL_sI, mR_sI, mK_sI, mS_sI, mI_sL, mL_s1, mL_s2, mR_sL, mK_sL, mS_sL, mI_sR, mL_sR, mR_s1, mR_s2, mK_sR, mS_sR, mA_s1, mA_s2, mL_sA, mR_sA, mK_sA, mS_sA, ix_n, ix_a, ix_m, ix_s, z_sw, z_stop, forall_const, true_implies, false_implies, imp_self, implies_true, not_true_eq_false, not_false_eq_true, ne_eq, eq_self, Option.some.injEq, reduceCtorEq, Nat.reduceAdd, Nat.reduceSub, Nat.reduceMul, Nat.reduceEqDiff, Nat.reduceLT, Nat.reduceLeDiff, Int.reduceAdd, Int.reduceMul, Int.reduceSub, Int.reduceNeg, Int.reduceToNat, Int.reduceLT, Int.reduceLE, Int.reduceEq, ↓reduceIte, List.reverse_cons, Option.toList, List.cons_append, List.nil_append, vI_inj, vL_inj, vO_inj, rI, rL, rO, rV, mI_sQ, mL_sQ, mK_sQ, mS_sQ, mQ_s1, mQ_s2, iL_and, iL_or, iL_xor, iL_shl, iL_ushr, iR_and, iR_or, iR_xor, iR_shl, iR_shr, iR_ushr, iR_cmp, yc0, tlX1_findReasons, tkX1_findReasons, o_aload, o_getI, o_getL, o_getR, o_goto, o_iald, o_iast, o_ic, o_icge, o_ifeq, o_ifne, o_iinc, o_iload, o_istore, o_lc, o_lcmp, o_putZ, o_vret]
        try simp +contextual (disch := omega) only [impF, impT, and_true, true_and, implies_true, not_false_eq_true, not_true_eq_false]
        exact hnx
      | succ d ih =>
        intro i h1 hi f1 hR1 hz
        have k0' : (gK h1 o).1 = 1 := by rw [f1.K]; exact k0
        have k14' : gK h1 (o + 14) = (9, 8) := by rw [f1.K]; exact k14
        have r13' : gR h1 o 13 = some (o + 14) := by rw [hR1]; exact r13
        have hnx := ih (i + 1) (sI h1 (o + 14) i 0) (by omega) (f1.tr' (Fr_I1 _ _ _ _) (fun _ q => q) (fun c q => by omega)) (by rw [mR_sI]; exact hR1) (fun q hq => by
          by_cases e : q = i
          · rw [e, mI_s1]
          · rw [mI_s2 _ _ (Or.inr e)]; exact hz q (by omega))
        refine z_run1 tsX1_findReasons [31] 20 ?_
        simp (maxSteps := 1000000) -implicitDefEqProofs +contextual (disch := omega) only [z_wp_t, z_wp_u, ↓pI_e, ↓pL_e, ↓pO_e, ↓pR_e, ↓p1_I, ↓p1_O, z_gl, z_st1, z_st2, z_nl_I, z_nl_O, z_nl_J, z_nl_L, if_true, if_false, ite_true, ite_false, true_and, and_true, List.mem_cons, List.not_mem_nil, or_false, false_or, or_self, List.length_cons, List.length_nil, InR_t, InL_t, z_ix_t, mI_s1, mI_s2, ↓brT, ↓brF, ↓brT', ↓brF', mL_sI, mR_sI, mK_sI, mS_sI, mI_sL, mL_s1, mL_s2, mR_sL, mK_sL, mS_sL, mI_sR, mL_sR, mR_s1, mR_s2, mK_sR, mS_sR, mA_s1, mA_s2, mL_sA, mR_sA, mK_sA, mS_sA, ix_n, ix_a, ix_m, ix_s, z_sw, z_stop, forall_const, true_implies, false_implies, imp_self, implies_true, not_true_eq_false, not_false_eq_true, ne_eq, eq_self, Option.some.injEq, reduceCtorEq, Nat.reduceAdd, Nat.reduceSub, Nat.reduceMul, Nat.reduceEqDiff, Nat.reduceLT, Nat.reduceLeDiff, Int.reduceAdd, Int.reduceMul, Int.reduceSub, Int.reduceNeg, Int.reduceToNat, Int.reduceLT, Int.reduceLE, Int.reduceEq, ↓reduceIte, List.reverse_cons, Option.toList, List.cons_append, List.nil_append, vI_inj, vL_inj, vO_inj, rI, rL, rO, rV, mI_sQ, mL_sQ, mK_sQ, mS_sQ, mQ_s1, mQ_s2, iL_and, iL_or, iL_xor, iL_shl, iL_ushr, iR_and, iR_or, iR_xor, iR_shl, iR_shr, iR_ushr, iR_cmp, yc0, tlX1_findReasons, tkX1_findReasons, o_aload, o_getI, o_getL, o_getR, o_goto, o_iald, o_iast, o_ic, o_icge, o_ifeq, o_ifne, o_iinc, o_iload, o_istore, o_lc, o_lcmp, o_putZ, o_vret, k0', k14', r13']
        try simp +contextual (disch := omega) only [impF, impT, and_true, true_and, implies_true, not_false_eq_true, not_true_eq_false]
        exact hnx
    have h0 := lo1 8 0 (sI h o 10 1) (by omega) Fr.rf rfl (fun q hq => by omega)
    refine z_run1 tsX1_findReasons [31] 30 ?_
    simp (maxSteps := 1000000) -implicitDefEqProofs +contextual (disch := omega) only [z_wp_t, z_wp_u, ↓pI_e, ↓pL_e, ↓pO_e, ↓pR_e, ↓p1_I, ↓p1_O, z_gl, z_st1, z_st2, z_nl_I, z_nl_O, z_nl_J, z_nl_L, if_true, if_false, ite_true, ite_false, true_and, and_true, List.mem_cons, List.not_mem_nil, or_false, false_or, or_self, List.length_cons, List.length_nil, InR_t, InL_t, z_ix_t, mI_s1, mI_s2, ↓brT, ↓brF, ↓brT', ↓brF', mL_sI, mR_sI, mK_sI, mS_sI, mI_sL, mL_s1, mL_s2, mR_sL, mK_sL, mS_sL, mI_sR, mL_sR, mR_s1, mR_s2, mK_sR, mS_sR, mA_s1, mA_s2, mL_sA, mR_sA, mK_sA, mS_sA, ix_n, ix_a, ix_m, ix_s, z_sw, z_stop, forall_const, true_implies, false_implies, imp_self, implies_true, not_true_eq_false, not_false_eq_true, ne_eq, eq_self, Option.some.injEq, reduceCtorEq, Nat.reduceAdd, Nat.reduceSub, Nat.reduceMul, Nat.reduceEqDiff, Nat.reduceLT, Nat.reduceLeDiff, Int.reduceAdd, Int.reduceMul, Int.reduceSub, Int.reduceNeg, Int.reduceToNat, Int.reduceLT, Int.reduceLE, Int.reduceEq, ↓reduceIte, List.reverse_cons, Option.toList, List.cons_append, List.nil_append, vI_inj, vL_inj, vO_inj, rI, rL, rO, rV, mI_sQ, mL_sQ, mK_sQ, mS_sQ, mQ_s1, mQ_s2, iL_and, iL_or, iL_xor, iL_shl, iL_ushr, iR_and, iR_or, iR_xor, iR_shl, iR_shr, iR_ushr, iR_cmp, yc0, tlX1_findReasons, tkX1_findReasons, o_aload, o_getI, o_getL, o_getR, o_goto, o_iald, o_iast, o_ic, o_icge, o_ifeq, o_ifne, o_iinc, o_iload, o_istore, o_lc, o_lcmp, o_putZ, o_vret, k0, h10, h5, hy0, b1]
    try simp +contextual (disch := omega) only [impF, impT, and_true, true_and, implies_true, not_false_eq_true, not_true_eq_false]
    exact h0
  · have h101 : gI h o 10 = 1 := by have := hO.f01.2.2.2.2; omega
    refine z_run1 tsX1_findReasons [] 20 ?_
    simp (maxSteps := 1000000) -implicitDefEqProofs +contextual (disch := omega) only [z_wp_t, z_wp_u, ↓pI_e, ↓pL_e, ↓pO_e, ↓pR_e, ↓p1_I, ↓p1_O, z_gl, z_st1, z_st2, z_nl_I, z_nl_O, z_nl_J, z_nl_L, if_true, if_false, ite_true, ite_false, true_and, and_true, List.mem_cons, List.not_mem_nil, or_false, false_or, or_self, List.length_cons, List.length_nil, InR_t, InL_t, z_ix_t, mI_s1, mI_s2, ↓brT, ↓brF, ↓brT', ↓brF', mL_sI, mR_sI, mK_sI, mS_sI, mI_sL, mL_s1, mL_s2, mR_sL, mK_sL, mS_sL, mI_sR, mL_sR, mR_s1, mR_s2, mK_sR, mS_sR, mA_s1, mA_s2, mL_sA, mR_sA, mK_sA, mS_sA, ix_n, ix_a, ix_m, ix_s, z_sw, z_stop, forall_const, true_implies, false_implies, imp_self, implies_true, not_true_eq_false, not_false_eq_true, ne_eq, eq_self, Option.some.injEq, reduceCtorEq, Nat.reduceAdd, Nat.reduceSub, Nat.reduceMul, Nat.reduceEqDiff, Nat.reduceLT, Nat.reduceLeDiff, Int.reduceAdd, Int.reduceMul, Int.reduceSub, Int.reduceNeg, Int.reduceToNat, Int.reduceLT, Int.reduceLE, Int.reduceEq, ↓reduceIte, List.reverse_cons, Option.toList, List.cons_append, List.nil_append, vI_inj, vL_inj, vO_inj, rI, rL, rO, rV, mI_sQ, mL_sQ, mK_sQ, mS_sQ, mQ_s1, mQ_s2, iL_and, iL_or, iL_xor, iL_shl, iL_ushr, iR_and, iR_or, iR_xor, iR_shl, iR_shr, iR_ushr, iR_cmp, yc0, tlX1_findReasons, tkX1_findReasons, o_aload, o_getI, o_getL, o_getR, o_goto, o_iald, o_iast, o_ic, o_icge, o_ifeq, o_ifne, o_iinc, o_iload, o_istore, o_lc, o_lcmp, o_putZ, o_vret, k0, h101]
    try simp +contextual (disch := omega) only [impF, impT, and_true, true_and, implies_true, not_false_eq_true, not_true_eq_false]
    rw [← hQ]
    exact ⟨rfl, OcK.rf hO, h5, h101⟩
set_option maxHeartbeats 4000000 in
theorem sp_findReasonsK (l : Launch) (G : zG) (h : zH) (o : Nat) (k0 : (gK h o).1 = 1) (h10 : gI h o 10 = 1) (lv : Nat) (hlv : 1 ≤ lv) : z_Sp l G mtX1_findReasons lv 0 0 [vR o] (h) (rV h) := by
  refine x_enter [vR o, vJ, vJ] (by decide +kernel) (by omega) rfl (Nat.le_of_ble_eq_true rfl) ?_
  refine z_run1 tsX1_findReasons [] 20 ?_
  simp (maxSteps := 1000000) -implicitDefEqProofs +contextual (disch := omega) only [z_wp_t, z_wp_u, ↓pI_e, ↓pL_e, ↓pO_e, ↓pR_e, ↓p1_I, ↓p1_O, z_gl, z_st1, z_st2, z_nl_I, z_nl_O, z_nl_J, z_nl_L, if_true, if_false, ite_true, ite_false, true_and, and_true, List.mem_cons, List.not_mem_nil, or_false, false_or, or_self, List.length_cons, List.length_nil, InR_t, InL_t, z_ix_t, mI_s1, mI_s2, ↓brT, ↓brF, ↓brT', ↓brF', mL_sI, mR_sI, mK_sI, mS_sI, mI_sL, mL_s1, mL_s2, mR_sL, mK_sL, mS_sL, mI_sR, mL_sR, mR_s1, mR_s2, mK_sR, mS_sR, mA_s1, mA_s2, mL_sA, mR_sA, mK_sA, mS_sA, ix_n, ix_a, ix_m, ix_s, z_sw, z_stop, forall_const, true_implies, false_implies, imp_self, implies_true, not_true_eq_false, not_false_eq_true, ne_eq, eq_self, Option.some.injEq, reduceCtorEq, Nat.reduceAdd, Nat.reduceSub, Nat.reduceMul, Nat.reduceEqDiff, Nat.reduceLT, Nat.reduceLeDiff, Int.reduceAdd, Int.reduceMul, Int.reduceSub, Int.reduceNeg, Int.reduceToNat, Int.reduceLT, Int.reduceLE, Int.reduceEq, ↓reduceIte, List.reverse_cons, Option.toList, List.cons_append, List.nil_append, vI_inj, vL_inj, vO_inj, rI, rL, rO, rV, mI_sQ, mL_sQ, mK_sQ, mS_sQ, mQ_s1, mQ_s2, iL_and, iL_or, iL_xor, iL_shl, iL_ushr, iR_and, iR_or, iR_xor, iR_shl, iR_shr, iR_ushr, iR_cmp, yc0, tlX1_findReasons, tkX1_findReasons, o_aload, o_getI, o_getL, o_getR, o_goto, o_iald, o_iast, o_ic, o_icge, o_ifeq, o_ifne, o_iinc, o_iload, o_istore, o_lc, o_lcmp, o_putZ, o_vret, k0, h10]
  try simp +contextual (disch := omega) only [impF, impT, and_true, true_and, implies_true, not_false_eq_true, not_true_eq_false]
set_option maxHeartbeats 4000000 in
theorem sp_reasonLength (l : Launch) (G : zG) (h : zH) (o p : Nat) (A : zA) (t : Nat → Nat) (hO : OcOK h o A) (hA : AOK A) (h5 : gI h o 5 = 1) (ht : bestA A = some t) (ho : o + 15 < 109) (hp : p < 8) (lv : Nat) (hlv : 5 ≤ lv) : z_Sp l G mtX1_reasonLength lv 0 0 [vR o, vI p] (h) (fun r h' => r = some (vI (gI h' (o + 14) p)) ∧ OcK h h' o A ∧ gI h' o 5 = 1 ∧ gI h' o 10 = 1) := by
  have k0 := hO.1.1.1
  refine x_enter [vR o, vI p] (by decide +kernel) (by omega) rfl (Nat.le_of_ble_eq_true rfl) ?_
  generalize hQ : (fun (r : Option zV) (h' : zH) => r = some (vI (gI h' (o + 14) p)) ∧ OcK h h' o A ∧ gI h' o 5 = 1 ∧ gI h' o 10 = 1) = QQ
  refine z_run1 tsX1_reasonLength [] 20 ?_
  simp (maxSteps := 1000000) -implicitDefEqProofs +contextual (disch := omega) only [z_wp_t, z_wp_u, ↓pI_e, ↓pL_e, ↓pO_e, ↓pR_e, ↓p1_I, ↓p1_O, z_gl, z_st1, z_st2, z_nl_I, z_nl_O, z_nl_J, z_nl_L, if_true, if_false, ite_true, ite_false, true_and, and_true, List.mem_cons, List.not_mem_nil, or_false, false_or, or_self, List.length_cons, List.length_nil, InR_t, InL_t, z_ix_t, mI_s1, mI_s2, ↓brT, ↓brF, ↓brT', ↓brF', mL_sI, mR_sI, mK_sI, mS_sI, mI_sL, mL_s1, mL_s2, mR_sL, mK_sL, mS_sL, mI_sR, mL_sR, mR_s1, mR_s2, mK_sR, mS_sR, mA_s1, mA_s2, mL_sA, mR_sA, mK_sA, mS_sA, ix_n, ix_a, ix_m, ix_s, z_sw, z_stop, forall_const, true_implies, false_implies, imp_self, implies_true, not_true_eq_false, not_false_eq_true, ne_eq, eq_self, Option.some.injEq, reduceCtorEq, Nat.reduceAdd, Nat.reduceSub, Nat.reduceMul, Nat.reduceEqDiff, Nat.reduceLT, Nat.reduceLeDiff, Int.reduceAdd, Int.reduceMul, Int.reduceSub, Int.reduceNeg, Int.reduceToNat, Int.reduceLT, Int.reduceLE, Int.reduceEq, ↓reduceIte, List.reverse_cons, Option.toList, List.cons_append, List.nil_append, vI_inj, vL_inj, vO_inj, rI, rL, rO, rV, mI_sQ, mL_sQ, mK_sQ, mS_sQ, mQ_s1, mQ_s2, iL_and, iL_or, iL_xor, iL_shl, iL_ushr, iR_and, iR_or, iR_xor, iR_shl, iR_shr, iR_ushr, iR_cmp, yc0, tlX1_reasonLength, tkX1_reasonLength, o_aload, o_getR, o_goto, o_iald, o_ic, o_ifeq, o_iload, o_iret]
  try simp +contextual (disch := omega) only [impF, impT, and_true, true_and, implies_true, not_false_eq_true, not_true_eq_false]
  refine x_callV (by decide +kernel) cv_X1_129 (sp_findReasons l G h o A t hO hA h5 ht ho 4 (by omega)) k0 (by omega) rfl (by omega) (by omega) rfl (Nat.le_of_ble_eq_true rfl) ?_
  rintro r h1 ⟨rfl, hK1, h51, h101⟩
  have k1 := hK1.2.2.1.1.1
  have k14 := hK1.2.2.1.1.2.2.2.1
  have r13 := hK1.2.2.1.1.2.2.2.2.2.2.2.2.2.1
  refine z_run1 tsX1_reasonLength [] 20 ?_
  simp (maxSteps := 1000000) -implicitDefEqProofs +contextual (disch := omega) only [z_wp_t, z_wp_u, ↓pI_e, ↓pL_e, ↓pO_e, ↓pR_e, ↓p1_I, ↓p1_O, z_gl, z_st1, z_st2, z_nl_I, z_nl_O, z_nl_J, z_nl_L, if_true, if_false, ite_true, ite_false, true_and, and_true, List.mem_cons, List.not_mem_nil, or_false, false_or, or_self, List.length_cons, List.length_nil, InR_t, InL_t, z_ix_t, mI_s1, mI_s2, ↓brT, ↓brF, ↓brT', ↓brF', mL_sI, mR_sI, mK_sI, mS_sI, mI_sL, mL_s1, mL_s2, mR_sL, mK_sL, mS_sL, mI_sR, mL_sR, mR_s1, mR_s2, mK_sR, mS_sR, mA_s1, mA_s2, mL_sA, mR_sA, mK_sA, mS_sA, ix_n, ix_a, ix_m, ix_s, z_sw, z_stop, forall_const, true_implies, false_implies, imp_self, implies_true, not_true_eq_false, not_false_eq_true, ne_eq, eq_self, Option.some.injEq, reduceCtorEq, Nat.reduceAdd, Nat.reduceSub, Nat.reduceMul, Nat.reduceEqDiff, Nat.reduceLT, Nat.reduceLeDiff, Int.reduceAdd, Int.reduceMul, Int.reduceSub, Int.reduceNeg, Int.reduceToNat, Int.reduceLT, Int.reduceLE, Int.reduceEq, ↓reduceIte, List.reverse_cons, Option.toList, List.cons_append, List.nil_append, vI_inj, vL_inj, vO_inj, rI, rL, rO, rV, mI_sQ, mL_sQ, mK_sQ, mS_sQ, mQ_s1, mQ_s2, iL_and, iL_or, iL_xor, iL_shl, iL_ushr, iR_and, iR_or, iR_xor, iR_shl, iR_shr, iR_ushr, iR_cmp, yc0, tlX1_reasonLength, tkX1_reasonLength, o_aload, o_getR, o_goto, o_iald, o_ic, o_ifeq, o_iload, o_iret]
  try simp +contextual (disch := omega) only [impF, impT, and_true, true_and, implies_true, not_false_eq_true, not_true_eq_false]
  refine x_callN (by decide +kernel) cv_X1_132 (sp_isPack1 l G _ (p : Int) (by omega) 1 (by omega)) (by omega) rfl (by omega) (by omega) rfl (Nat.le_of_ble_eq_true rfl) ?_
  rintro r h' ⟨rfl, hE⟩
  subst h'
  refine z_run1 tsX1_reasonLength [] 20 ?_
  simp (maxSteps := 1000000) -implicitDefEqProofs +contextual (disch := omega) only [z_wp_t, z_wp_u, ↓pI_e, ↓pL_e, ↓pO_e, ↓pR_e, ↓p1_I, ↓p1_O, z_gl, z_st1, z_st2, z_nl_I, z_nl_O, z_nl_J, z_nl_L, if_true, if_false, ite_true, ite_false, true_and, and_true, List.mem_cons, List.not_mem_nil, or_false, false_or, or_self, List.length_cons, List.length_nil, InR_t, InL_t, z_ix_t, mI_s1, mI_s2, ↓brT, ↓brF, ↓brT', ↓brF', mL_sI, mR_sI, mK_sI, mS_sI, mI_sL, mL_s1, mL_s2, mR_sL, mK_sL, mS_sL, mI_sR, mL_sR, mR_s1, mR_s2, mK_sR, mS_sR, mA_s1, mA_s2, mL_sA, mR_sA, mK_sA, mS_sA, ix_n, ix_a, ix_m, ix_s, z_sw, z_stop, forall_const, true_implies, false_implies, imp_self, implies_true, not_true_eq_false, not_false_eq_true, ne_eq, eq_self, Option.some.injEq, reduceCtorEq, Nat.reduceAdd, Nat.reduceSub, Nat.reduceMul, Nat.reduceEqDiff, Nat.reduceLT, Nat.reduceLeDiff, Int.reduceAdd, Int.reduceMul, Int.reduceSub, Int.reduceNeg, Int.reduceToNat, Int.reduceLT, Int.reduceLE, Int.reduceEq, ↓reduceIte, List.reverse_cons, Option.toList, List.cons_append, List.nil_append, vI_inj, vL_inj, vO_inj, rI, rL, rO, rV, mI_sQ, mL_sQ, mK_sQ, mS_sQ, mQ_s1, mQ_s2, iL_and, iL_or, iL_xor, iL_shl, iL_ushr, iR_and, iR_or, iR_xor, iR_shl, iR_shr, iR_ushr, iR_cmp, yc0, tlX1_reasonLength, tkX1_reasonLength, o_aload, o_getR, o_goto, o_iald, o_ic, o_ifeq, o_iload, o_iret, k1, k14, r13]
  try simp +contextual (disch := omega) only [impF, impT, and_true, true_and, implies_true, not_false_eq_true, not_true_eq_false]
  rw [← hQ]
  exact ⟨rfl, hK1, h51, h101⟩
set_option maxHeartbeats 4000000 in
theorem sp_reasonLengthK (l : Launch) (G : zG) (h : zH) (o p : Nat) (hS : ShO h o) (h10 : gI h o 10 = 1) (hp : p < 8) (lv : Nat) (hlv : 2 ≤ lv) : z_Sp l G mtX1_reasonLength lv 0 0 [vR o, vI p] (h) (rI (gI h (o + 14) p) h) := by
  have k0 := hS.1
  have k14 := hS.2.2.2.1
  have r13 := hS.2.2.2.2.2.2.2.2.2.1
  refine x_enter [vR o, vI p] (by decide +kernel) (by omega) rfl (Nat.le_of_ble_eq_true rfl) ?_
  refine z_run1 tsX1_reasonLength [] 20 ?_
  simp (maxSteps := 1000000) -implicitDefEqProofs +contextual (disch := omega) only [z_wp_t, z_wp_u, ↓pI_e, ↓pL_e, ↓pO_e, ↓pR_e, ↓p1_I, ↓p1_O, z_gl, z_st1, z_st2, z_nl_I, z_nl_O, z_nl_J, z_nl_L, if_true, if_false, ite_true, ite_false, true_and, and_true, List.mem_cons, List.not_mem_nil, or_false, false_or, or_self, List.length_cons, List.length_nil, InR_t, InL_t, z_ix_t, mI_s1, mI_s2, ↓brT, ↓brF, ↓brT', ↓brF', mL_sI, mR_sI, mK_sI, mS_sI, mI_sL, mL_s1, mL_s2, mR_sL, mK_sL, mS_sL, mI_sR, mL_sR, mR_s1, mR_s2, mK_sR, mS_sR, mA_s1, mA_s2, mL_sA, mR_sA, mK_sA, mS_sA, ix_n, ix_a, ix_m, ix_s, z_sw, z_stop, forall_const, true_implies, false_implies, imp_self, implies_true, not_true_eq_false, not_false_eq_true, ne_eq, eq_self, Option.some.injEq, reduceCtorEq, Nat.reduceAdd, Nat.reduceSub, Nat.reduceMul, Nat.reduceEqDiff, Nat.reduceLT, Nat.reduceLeDiff, Int.reduceAdd, Int.reduceMul, Int.reduceSub, Int.reduceNeg, Int.reduceToNat, Int.reduceLT, Int.reduceLE, Int.reduceEq, ↓reduceIte, List.reverse_cons, Option.toList, List.cons_append, List.nil_append, vI_inj, vL_inj, vO_inj, rI, rL, rO, rV, mI_sQ, mL_sQ, mK_sQ, mS_sQ, mQ_s1, mQ_s2, iL_and, iL_or, iL_xor, iL_shl, iL_ushr, iR_and, iR_or, iR_xor, iR_shl, iR_shr, iR_ushr, iR_cmp, yc0, tlX1_reasonLength, tkX1_reasonLength, o_aload, o_getR, o_goto, o_iald, o_ic, o_ifeq, o_iload, o_iret]
  try simp +contextual (disch := omega) only [impF, impT, and_true, true_and, implies_true, not_false_eq_true, not_true_eq_false]
  refine x_callV (by decide +kernel) cv_X1_129 (sp_findReasonsK l G h o k0 h10 1 (by omega)) k0 (by omega) rfl (by omega) (by omega) rfl (Nat.le_of_ble_eq_true rfl) ?_
  rintro r h' ⟨rfl, hE⟩
  subst h'
  refine z_run1 tsX1_reasonLength [] 20 ?_
  simp (maxSteps := 1000000) -implicitDefEqProofs +contextual (disch := omega) only [z_wp_t, z_wp_u, ↓pI_e, ↓pL_e, ↓pO_e, ↓pR_e, ↓p1_I, ↓p1_O, z_gl, z_st1, z_st2, z_nl_I, z_nl_O, z_nl_J, z_nl_L, if_true, if_false, ite_true, ite_false, true_and, and_true, List.mem_cons, List.not_mem_nil, or_false, false_or, or_self, List.length_cons, List.length_nil, InR_t, InL_t, z_ix_t, mI_s1, mI_s2, ↓brT, ↓brF, ↓brT', ↓brF', mL_sI, mR_sI, mK_sI, mS_sI, mI_sL, mL_s1, mL_s2, mR_sL, mK_sL, mS_sL, mI_sR, mL_sR, mR_s1, mR_s2, mK_sR, mS_sR, mA_s1, mA_s2, mL_sA, mR_sA, mK_sA, mS_sA, ix_n, ix_a, ix_m, ix_s, z_sw, z_stop, forall_const, true_implies, false_implies, imp_self, implies_true, not_true_eq_false, not_false_eq_true, ne_eq, eq_self, Option.some.injEq, reduceCtorEq, Nat.reduceAdd, Nat.reduceSub, Nat.reduceMul, Nat.reduceEqDiff, Nat.reduceLT, Nat.reduceLeDiff, Int.reduceAdd, Int.reduceMul, Int.reduceSub, Int.reduceNeg, Int.reduceToNat, Int.reduceLT, Int.reduceLE, Int.reduceEq, ↓reduceIte, List.reverse_cons, Option.toList, List.cons_append, List.nil_append, vI_inj, vL_inj, vO_inj, rI, rL, rO, rV, mI_sQ, mL_sQ, mK_sQ, mS_sQ, mQ_s1, mQ_s2, iL_and, iL_or, iL_xor, iL_shl, iL_ushr, iR_and, iR_or, iR_xor, iR_shl, iR_shr, iR_ushr, iR_cmp, yc0, tlX1_reasonLength, tkX1_reasonLength, o_aload, o_getR, o_goto, o_iald, o_ic, o_ifeq, o_iload, o_iret]
  try simp +contextual (disch := omega) only [impF, impT, and_true, true_and, implies_true, not_false_eq_true, not_true_eq_false]
  refine x_callN (by decide +kernel) cv_X1_132 (sp_isPack1 l G _ (p : Int) (by omega) 1 (by omega)) (by omega) rfl (by omega) (by omega) rfl (Nat.le_of_ble_eq_true rfl) ?_
  rintro r h' ⟨rfl, hE⟩
  subst h'
  refine z_run1 tsX1_reasonLength [] 20 ?_
  simp (maxSteps := 1000000) -implicitDefEqProofs +contextual (disch := omega) only [z_wp_t, z_wp_u, ↓pI_e, ↓pL_e, ↓pO_e, ↓pR_e, ↓p1_I, ↓p1_O, z_gl, z_st1, z_st2, z_nl_I, z_nl_O, z_nl_J, z_nl_L, if_true, if_false, ite_true, ite_false, true_and, and_true, List.mem_cons, List.not_mem_nil, or_false, false_or, or_self, List.length_cons, List.length_nil, InR_t, InL_t, z_ix_t, mI_s1, mI_s2, ↓brT, ↓brF, ↓brT', ↓brF', mL_sI, mR_sI, mK_sI, mS_sI, mI_sL, mL_s1, mL_s2, mR_sL, mK_sL, mS_sL, mI_sR, mL_sR, mR_s1, mR_s2, mK_sR, mS_sR, mA_s1, mA_s2, mL_sA, mR_sA, mK_sA, mS_sA, ix_n, ix_a, ix_m, ix_s, z_sw, z_stop, forall_const, true_implies, false_implies, imp_self, implies_true, not_true_eq_false, not_false_eq_true, ne_eq, eq_self, Option.some.injEq, reduceCtorEq, Nat.reduceAdd, Nat.reduceSub, Nat.reduceMul, Nat.reduceEqDiff, Nat.reduceLT, Nat.reduceLeDiff, Int.reduceAdd, Int.reduceMul, Int.reduceSub, Int.reduceNeg, Int.reduceToNat, Int.reduceLT, Int.reduceLE, Int.reduceEq, ↓reduceIte, List.reverse_cons, Option.toList, List.cons_append, List.nil_append, vI_inj, vL_inj, vO_inj, rI, rL, rO, rV, mI_sQ, mL_sQ, mK_sQ, mS_sQ, mQ_s1, mQ_s2, iL_and, iL_or, iL_xor, iL_shl, iL_ushr, iR_and, iR_or, iR_xor, iR_shl, iR_shr, iR_ushr, iR_cmp, yc0, tlX1_reasonLength, tkX1_reasonLength, o_aload, o_getR, o_goto, o_iald, o_ic, o_ifeq, o_iload, o_iret, k0, k14, r13]
  try simp +contextual (disch := omega) only [impF, impT, and_true, true_and, implies_true, not_false_eq_true, not_true_eq_false]
set_option maxHeartbeats 4000000 in
theorem sp_reasonAt (l : Launch) (G : zG) (h : zH) (o p i r : Nat) (P : Nat → List Nat) (hS : ShO h o) (h10 : gI h o 10 = 1) (hp : p < 8) (hP1 : ∀ q, q < 8 → gI h (o + 14) q = ((P q).length : Int)) (hP2 : ∀ q, q < 8 → P q ≠ [] → ∃ r : Nat, r < 20 ∧ gI h (o + 12) q = (r : Int) ∧ ((gI h (o + 13) q = -1 ∧ P q = [r]) ∨ ∃ b : Nat, b < 8 ∧ gI h (o + 13) q = (b : Int) ∧ P b ≠ [] ∧ P q = P b ++ [r])) (hr : (P p)[i]? = some r) (hl : (P p).length ≤ 1000) (lv : Nat) (hlv : 3 ≤ lv) : z_Sp l G mtX1_reasonAt lv 0 0 [vR o, vI p, vI i] (h) (rI (r : Int) h) := by
  have k0 := hS.1
  have k12 := hS.2.1
  have k13 := hS.2.2.1
  have r11 := hS.2.2.2.2.2.2.2.1
  have r12 := hS.2.2.2.2.2.2.2.2.1
  have hi := (List.getElem?_eq_some_iff.mp hr).1
  refine x_enter [vR o, vI p, vI i, vJ, vJ] (by decide +kernel) (by omega) rfl (Nat.le_of_ble_eq_true rfl) ?_
  generalize hQ : rI (r : Int) h = QQ
  refine z_run1 tsX1_reasonAt [] 20 ?_
  simp (maxSteps := 1000000) -implicitDefEqProofs +contextual (disch := omega) only [z_wp_t, z_wp_u, ↓pI_e, ↓pL_e, ↓pO_e, ↓pR_e, ↓p1_I, ↓p1_O, z_gl, z_st1, z_st2, z_nl_I, z_nl_O, z_nl_J, z_nl_L, if_true, if_false, ite_true, ite_false, true_and, and_true, List.mem_cons, List.not_mem_nil, or_false, false_or, or_self, List.length_cons, List.length_nil, InR_t, InL_t, z_ix_t, mI_s1, mI_s2, ↓brT, ↓brF, ↓brT', ↓brF', mL_sI, mR_sI, mK_sI, mS_sI, mI_sL, mL_s1, mL_s2, mR_sL, mK_sL, mS_sL, mI_sR, mL_sR, mR_s1, mR_s2, mK_sR, mS_sR, mA_s1, mA_s2, mL_sA, mR_sA, mK_sA, mS_sA, ix_n, ix_a, ix_m, ix_s, z_sw, z_stop, forall_const, true_implies, false_implies, imp_self, implies_true, not_true_eq_false, not_false_eq_true, ne_eq, eq_self, Option.some.injEq, reduceCtorEq, Nat.reduceAdd, Nat.reduceSub, Nat.reduceMul, Nat.reduceEqDiff, Nat.reduceLT, Nat.reduceLeDiff, Int.reduceAdd, Int.reduceMul, Int.reduceSub, Int.reduceNeg, Int.reduceToNat, Int.reduceLT, Int.reduceLE, Int.reduceEq, ↓reduceIte, List.reverse_cons, Option.toList, List.cons_append, List.nil_append, vI_inj, vL_inj, vO_inj, rI, rL, rO, rV, mI_sQ, mL_sQ, mK_sQ, mS_sQ, mQ_s1, mQ_s2, iL_and, iL_or, iL_xor, iL_shl, iL_ushr, iR_and, iR_or, iR_xor, iR_shl, iR_shr, iR_ushr, iR_cmp, yc0, tlX1_reasonAt, tkX1_reasonAt, o_aload, o_getR, o_goto, o_iald, o_ic, o_icle, o_ifeq, o_iinc, o_iload, o_iret, o_istore, o_isub]
  try simp +contextual (disch := omega) only [impF, impT, and_true, true_and, implies_true, not_false_eq_true, not_true_eq_false]
  refine x_callV (by decide +kernel) cv_X1_135 (sp_reasonLengthK l G h o p hS h10 hp 2 (by omega)) k0 (by omega) rfl (by omega) (by omega) rfl (Nat.le_of_ble_eq_true rfl) ?_
  rintro r h' ⟨rfl, hE⟩
  subst h'
  rw [hP1 p hp]
  have hlo : ∀ (d q : Nat) (rest : List Nat), q < 8 → P q ≠ [] → (P q).length = i + d + 1 → P p = P q ++ rest → z_X l G mtX1_reasonAt lv 0 0 (QQ) 0 0 (h) 11 [vR o, vI p, vI i, vI q, vI ((i + d : Nat) : Int)] [] := by
    intro d
    induction d with
    | zero =>
      intro q rest hq hne hlen hpre
      obtain ⟨r1, g1, g2, g3⟩ := hP2 q hq hne
      have er : r1 = r := by
        have h1 : (P q)[i]? = some r := by
          rw [hpre, List.getElem?_append_left (by omega)] at hr
          exact hr
        rcases g3 with ⟨-, g⟩ | ⟨b, -, -, -, g⟩
        · rw [g] at hlen h1
          simp at hlen
          rw [hlen] at h1
          simpa using h1
        · rw [g] at hlen h1
          rw [List.length_append] at hlen
          simp at hlen
          rw [List.getElem?_append_right (by omega), hlen, Nat.sub_self] at h1
          simpa using h1
      refine z_run1 tsX1_reasonAt [] 20 ?_
      simp (maxSteps := 1000000) -implicitDefEqProofs +contextual (disch := omega) only [z_wp_t, z_wp_u, ↓pI_e, ↓pL_e, ↓pO_e, ↓pR_e, ↓p1_I, ↓p1_O, z_gl, z_st1, z_st2, z_nl_I, z_nl_O, z_nl_J, z_nl_L, if_true, if_false, ite_true, ite_false, true_and, and_true, List.mem_cons, List.not_mem_nil, or_false, false_or, or_self, List.length_cons, List.length_nil, InR_t, InL_t, z_ix_t, mI_s1, mI_s2, ↓brT, ↓brF, ↓brT', ↓brF', mL_sI, mR_sI, mK_sI, mS_sI, mI_sL, mL_s1, mL_s2, mR_sL, mK_sL, mS_sL, mI_sR, mL_sR, mR_s1, mR_s2, mK_sR, mS_sR, mA_s1, mA_s2, mL_sA, mR_sA, mK_sA, mS_sA, ix_n, ix_a, ix_m, ix_s, z_sw, z_stop, forall_const, true_implies, false_implies, imp_self, implies_true, not_true_eq_false, not_false_eq_true, ne_eq, eq_self, Option.some.injEq, reduceCtorEq, Nat.reduceAdd, Nat.reduceSub, Nat.reduceMul, Nat.reduceEqDiff, Nat.reduceLT, Nat.reduceLeDiff, Int.reduceAdd, Int.reduceMul, Int.reduceSub, Int.reduceNeg, Int.reduceToNat, Int.reduceLT, Int.reduceLE, Int.reduceEq, ↓reduceIte, List.reverse_cons, Option.toList, List.cons_append, List.nil_append, vI_inj, vL_inj, vO_inj, rI, rL, rO, rV, mI_sQ, mL_sQ, mK_sQ, mS_sQ, mQ_s1, mQ_s2, iL_and, iL_or, iL_xor, iL_shl, iL_ushr, iR_and, iR_or, iR_xor, iR_shl, iR_shr, iR_ushr, iR_cmp, yc0, tlX1_reasonAt, tkX1_reasonAt, o_aload, o_getR, o_goto, o_iald, o_ic, o_icle, o_ifeq, o_iinc, o_iload, o_iret, o_istore, o_isub]
      try simp +contextual (disch := omega) only [impF, impT, and_true, true_and, implies_true, not_false_eq_true, not_true_eq_false]
      refine x_callN (by decide +kernel) cv_X1_132 (sp_isPack1 l G _ (q : Int) (by omega) 1 (by omega)) (by omega) rfl (by omega) (by omega) rfl (Nat.le_of_ble_eq_true rfl) ?_
      rintro r h' ⟨rfl, hE⟩
      subst h'
      refine z_run1 tsX1_reasonAt [] 20 ?_
      simp (maxSteps := 1000000) -implicitDefEqProofs +contextual (disch := omega) only [z_wp_t, z_wp_u, ↓pI_e, ↓pL_e, ↓pO_e, ↓pR_e, ↓p1_I, ↓p1_O, z_gl, z_st1, z_st2, z_nl_I, z_nl_O, z_nl_J, z_nl_L, if_true, if_false, ite_true, ite_false, true_and, and_true, List.mem_cons, List.not_mem_nil, or_false, false_or, or_self, List.length_cons, List.length_nil, InR_t, InL_t, z_ix_t, mI_s1, mI_s2, ↓brT, ↓brF, ↓brT', ↓brF', mL_sI, mR_sI, mK_sI, mS_sI, mI_sL, mL_s1, mL_s2, mR_sL, mK_sL, mS_sL, mI_sR, mL_sR, mR_s1, mR_s2, mK_sR, mS_sR, mA_s1, mA_s2, mL_sA, mR_sA, mK_sA, mS_sA, ix_n, ix_a, ix_m, ix_s, z_sw, z_stop, forall_const, true_implies, false_implies, imp_self, implies_true, not_true_eq_false, not_false_eq_true, ne_eq, eq_self, Option.some.injEq, reduceCtorEq, Nat.reduceAdd, Nat.reduceSub, Nat.reduceMul, Nat.reduceEqDiff, Nat.reduceLT, Nat.reduceLeDiff, Int.reduceAdd, Int.reduceMul, Int.reduceSub, Int.reduceNeg, Int.reduceToNat, Int.reduceLT, Int.reduceLE, Int.reduceEq, ↓reduceIte, List.reverse_cons, Option.toList, List.cons_append, List.nil_append, vI_inj, vL_inj, vO_inj, rI, rL, rO, rV, mI_sQ, mL_sQ, mK_sQ, mS_sQ, mQ_s1, mQ_s2, iL_and, iL_or, iL_xor, iL_shl, iL_ushr, iR_and, iR_or, iR_xor, iR_shl, iR_shr, iR_ushr, iR_cmp, yc0, tlX1_reasonAt, tkX1_reasonAt, o_aload, o_getR, o_goto, o_iald, o_ic, o_icle, o_ifeq, o_iinc, o_iload, o_iret, o_istore, o_isub, k0, k12, r11, g2]
      try simp +contextual (disch := omega) only [impF, impT, and_true, true_and, implies_true, not_false_eq_true, not_true_eq_false]
      rw [← hQ, er]
      exact ⟨rfl, rfl⟩
    | succ d ih =>
      intro q rest hq hne hlen hpre
      have hql : (P q).length ≤ 1000 := by rw [hpre, List.length_append] at hl; omega
      obtain ⟨r1, g1, g2, g3⟩ := hP2 q hq hne
      rcases g3 with ⟨-, g⟩ | ⟨b, q1, q2, q3, g⟩
      · rw [g] at hlen; simp at hlen
      · have hnx := ih b ([r1] ++ rest) q1 q3 (by rw [g, List.length_append] at hlen; simp at hlen; omega) (by rw [hpre, g, List.append_assoc])
        refine z_run1 tsX1_reasonAt [] 20 ?_
        simp (maxSteps := 1000000) -implicitDefEqProofs +contextual (disch := omega) only [z_wp_t, z_wp_u, ↓pI_e, ↓pL_e, ↓pO_e, ↓pR_e, ↓p1_I, ↓p1_O, z_gl, z_st1, z_st2, z_nl_I, z_nl_O, z_nl_J, z_nl_L, if_true, if_false, ite_true, ite_false, true_and, and_true, List.mem_cons, List.not_mem_nil, or_false, false_or, or_self, List.length_cons, List.length_nil, InR_t, InL_t, z_ix_t, mI_s1, mI_s2, ↓brT, ↓brF, ↓brT', ↓brF', mL_sI, mR_sI, mK_sI, mS_sI, mI_sL, mL_s1, mL_s2, mR_sL, mK_sL, mS_sL, mI_sR, mL_sR, mR_s1, mR_s2, mK_sR, mS_sR, mA_s1, mA_s2, mL_sA, mR_sA, mK_sA, mS_sA, ix_n, ix_a, ix_m, ix_s, z_sw, z_stop, forall_const, true_implies, false_implies, imp_self, implies_true, not_true_eq_false, not_false_eq_true, ne_eq, eq_self, Option.some.injEq, reduceCtorEq, Nat.reduceAdd, Nat.reduceSub, Nat.reduceMul, Nat.reduceEqDiff, Nat.reduceLT, Nat.reduceLeDiff, Int.reduceAdd, Int.reduceMul, Int.reduceSub, Int.reduceNeg, Int.reduceToNat, Int.reduceLT, Int.reduceLE, Int.reduceEq, ↓reduceIte, List.reverse_cons, Option.toList, List.cons_append, List.nil_append, vI_inj, vL_inj, vO_inj, rI, rL, rO, rV, mI_sQ, mL_sQ, mK_sQ, mS_sQ, mQ_s1, mQ_s2, iL_and, iL_or, iL_xor, iL_shl, iL_ushr, iR_and, iR_or, iR_xor, iR_shl, iR_shr, iR_ushr, iR_cmp, yc0, tlX1_reasonAt, tkX1_reasonAt, o_aload, o_getR, o_goto, o_iald, o_ic, o_icle, o_ifeq, o_iinc, o_iload, o_iret, o_istore, o_isub]
        try simp +contextual (disch := omega) only [impF, impT, and_true, true_and, implies_true, not_false_eq_true, not_true_eq_false]
        refine x_callN (by decide +kernel) cv_X1_132 (sp_isPack1 l G _ (q : Int) (by omega) 1 (by omega)) (by omega) rfl (by omega) (by omega) rfl (Nat.le_of_ble_eq_true rfl) ?_
        rintro r h' ⟨rfl, hE⟩
        subst h'
        rw [show ((i + (d + 1) : Nat) : Int) = ((i + d : Nat) : Int) + 1 by omega]
        refine z_run1 tsX1_reasonAt [11] 20 ?_
        simp (maxSteps := 1000000) -implicitDefEqProofs +contextual (disch := omega) only [z_wp_t, z_wp_u, ↓pI_e, ↓pL_e, ↓pO_e, ↓pR_e, ↓p1_I, ↓p1_O, z_gl, z_st1, z_st2, z_nl_I, z_nl_O, z_nl_J, z_nl_L, if_true, if_false, ite_true, ite_false, true_and, and_true, List.mem_cons, List.not_mem_nil, or_false, false_or, or_self, List.length_cons, List.length_nil, InR_t, InL_t, z_ix_t, mI_s1, mI_s2, ↓brT, ↓brF, ↓brT', ↓brF', mL_sI, mR_sI, mK_sI, mS_sI, mI_sL, mL_s1, mL_s2, mR_sL, mK_sL, mS_sL, mI_sR, mL_sR, mR_s1, mR_s2, mK_sR, mS_sR, mA_s1, mA_s2, mL_sA, mR_sA, mK_sA, mS_sA, ix_n, ix_a, ix_m, ix_s, z_sw, z_stop, forall_const, true_implies, false_implies, imp_self, implies_true, not_true_eq_false, not_false_eq_true, ne_eq, eq_self, Option.some.injEq, reduceCtorEq, Nat.reduceAdd, Nat.reduceSub, Nat.reduceMul, Nat.reduceEqDiff, Nat.reduceLT, Nat.reduceLeDiff, Int.reduceAdd, Int.reduceMul, Int.reduceSub, Int.reduceNeg, Int.reduceToNat, Int.reduceLT, Int.reduceLE, Int.reduceEq, ↓reduceIte, List.reverse_cons, Option.toList, List.cons_append, List.nil_append, vI_inj, vL_inj, vO_inj, rI, rL, rO, rV, mI_sQ, mL_sQ, mK_sQ, mS_sQ, mQ_s1, mQ_s2, iL_and, iL_or, iL_xor, iL_shl, iL_ushr, iR_and, iR_or, iR_xor, iR_shl, iR_shr, iR_ushr, iR_cmp, yc0, tlX1_reasonAt, tkX1_reasonAt, o_aload, o_getR, o_goto, o_iald, o_ic, o_icle, o_ifeq, o_iinc, o_iload, o_iret, o_istore, o_isub, k0, k13, r12, q2]
        try simp +contextual (disch := omega) only [impF, impT, and_true, true_and, implies_true, not_false_eq_true, not_true_eq_false]
        rw [show ((i + d : Nat) : Int) + 1 + -1 = ((i + d : Nat) : Int) by omega]
        exact hnx
  have h0 := hlo ((P p).length - 1 - i) p [] hp (fun e => by rw [e] at hi; simp at hi) (by omega) (by simp)
  rw [show ((i + ((P p).length - 1 - i) : Nat) : Int) = ((P p).length : Int) - 1 by omega] at h0
  refine z_run1 tsX1_reasonAt [11] 20 ?_
  simp (maxSteps := 1000000) -implicitDefEqProofs +contextual (disch := omega) only [z_wp_t, z_wp_u, ↓pI_e, ↓pL_e, ↓pO_e, ↓pR_e, ↓p1_I, ↓p1_O, z_gl, z_st1, z_st2, z_nl_I, z_nl_O, z_nl_J, z_nl_L, if_true, if_false, ite_true, ite_false, true_and, and_true, List.mem_cons, List.not_mem_nil, or_false, false_or, or_self, List.length_cons, List.length_nil, InR_t, InL_t, z_ix_t, mI_s1, mI_s2, ↓brT, ↓brF, ↓brT', ↓brF', mL_sI, mR_sI, mK_sI, mS_sI, mI_sL, mL_s1, mL_s2, mR_sL, mK_sL, mS_sL, mI_sR, mL_sR, mR_s1, mR_s2, mK_sR, mS_sR, mA_s1, mA_s2, mL_sA, mR_sA, mK_sA, mS_sA, ix_n, ix_a, ix_m, ix_s, z_sw, z_stop, forall_const, true_implies, false_implies, imp_self, implies_true, not_true_eq_false, not_false_eq_true, ne_eq, eq_self, Option.some.injEq, reduceCtorEq, Nat.reduceAdd, Nat.reduceSub, Nat.reduceMul, Nat.reduceEqDiff, Nat.reduceLT, Nat.reduceLeDiff, Int.reduceAdd, Int.reduceMul, Int.reduceSub, Int.reduceNeg, Int.reduceToNat, Int.reduceLT, Int.reduceLE, Int.reduceEq, ↓reduceIte, List.reverse_cons, Option.toList, List.cons_append, List.nil_append, vI_inj, vL_inj, vO_inj, rI, rL, rO, rV, mI_sQ, mL_sQ, mK_sQ, mS_sQ, mQ_s1, mQ_s2, iL_and, iL_or, iL_xor, iL_shl, iL_ushr, iR_and, iR_or, iR_xor, iR_shl, iR_shr, iR_ushr, iR_cmp, yc0, tlX1_reasonAt, tkX1_reasonAt, o_aload, o_getR, o_goto, o_iald, o_ic, o_icle, o_ifeq, o_iinc, o_iload, o_iret, o_istore, o_isub]
  try simp +contextual (disch := omega) only [impF, impT, and_true, true_and, implies_true, not_false_eq_true, not_true_eq_false]
  exact h0
