/-! RuleText.readAsRule -/
abbrev zD : Type := Int × Int × List (Int × Int) × Int × Int × List (Int × Int)
def rdA (t : Nat → Int) (n : Nat) : Nat ⊕ (Int × Nat) := if ck t n (sk t n 0) = 35 then (if 49 ≤ ck t n (sk t n (sk t n 0 + 1)) ∧ ck t n (sk t n (sk t n 0 + 1)) ≤ 52 then .inr (ck t n (sk t n (sk t n 0 + 1)) - 49 + 1, sk t n (sk t n (sk t n 0 + 1) + 1)) else .inl (sk t n (sk t n 0 + 1))) else .inr (0, sk t n 0)
def rdB (t : Nat → Int) (n i : Nat) : Nat ⊕ (Int × Nat × List (Int × Int)) := if ck t n i = 58 then .inr (-1, i, []) else if 97 ≤ ck t n i ∧ ck t n i ≤ 104 then (if (pRg t n 20 (sk t n (i + 1)) []).1 = true then .inr (ck t n i - 97, (pRg t n 20 (sk t n (i + 1)) []).2) else .inl (pRg t n 20 (sk t n (i + 1)) []).2.1) else .inl i
def rdD (t : Nat → Int) (n i : Nat) (fb : Int) : Nat ⊕ (Int × Int × List (Int × Int)) := if 97 ≤ ck t n i ∧ ck t n i ≤ 104 then (if (pRg t n 20 (sk t n (i + 1)) []).1 = true ∧ ¬ (pRg t n 20 (sk t n (i + 1)) []).2.1 < n then .inr (fb, ck t n i - 97, (pRg t n 20 (sk t n (i + 1)) []).2.2) else .inl (pRg t n 20 (sk t n (i + 1)) []).2.1) else .inl i
def rdC (t : Nat → Int) (n i : Nat) : Nat ⊕ (Int × Int × List (Int × Int)) := if ck t n i = 58 then (if ck t n (sk t n (i + 1)) = 33 then rdD t n (sk t n (sk t n (i + 1) + 1)) 1 else rdD t n (sk t n (i + 1)) 0) else .inl i
def rdRule (t : Nat → Int) (n : Nat) : Nat ⊕ zD := match rdA t n with
  | .inl j => .inl j
  | .inr a => match rdB t n a.2 with
    | .inl j => .inl j
    | .inr b => match rdC t n b.2.1 with
      | .inl j => .inl j
      | .inr c => .inr (a.1, b.1, b.2.2, c.1, c.2.1, c.2.2)
def fltX (x : Nat ⊕ zD) : Int := match x with
  | .inl j => (j : Int)
  | .inr _ => -1
/-- what readAsRule leaves -/
def ruQ (h : zH) (f : Nat → Int) (x : Nat ⊕ zD) : Option zV → zH → Prop := fun r h' => r = some (vI (fltX x)) ∧ ∃ h2 g, h' = sA h2 85 g ∧ Fr (fun c => 87 ≤ c ∧ c ≤ 92) h h2 ∧ g 1 = f 1 ∧ RgS h2 87 20 ∧ RgS h2 90 20 ∧ ∀ d, x = .inr d → g 4 = d.1 ∧ g 5 = d.2.1 ∧ RgL h2 87 d.2.2.1 ∧ g 7 = d.2.2.2.1 ∧ g 8 = d.2.2.2.2.1 ∧ RgL h2 90 d.2.2.2.2.2
set_option maxHeartbeats 4000000 in
theorem sp_readAsRule (l : Launch) (G : zG) (h : zH) (f t : Nat → Int) (n : Nat) (hT : Tx h f t n) (hS1 : RgS h 87 20) (hS2 : RgS h 90 20) (lv : Nat) (hlv : 6 ≤ lv) : z_Sp l G mtX5_readAsRule lv 0 0 [vR 85] (sA h 85 f) (ruQ h f (rdRule t n)) := by
  have hT0 := hT
  obtain ⟨k0, k1, r0, r1, r2, hn, hf1, ht, hb⟩ := hT
  have hTT : ∀ (h2 : zH) (g : Nat → Int), Fr (fun c => 87 ≤ c ∧ c ≤ 92) h h2 → g 1 = f 1 → Tx h2 g t n := fun h2 g a b => (hT0.up b).fr a ⟨by omega, by omega⟩
  have hs0 := sk_le t (n := n) (i := 0) (by omega)
  -- a fault is there: nothing moves any more
  have f103 : ∀ (h2 : zH) (g : Nat → Int) (j : Nat), Fr (fun c => 87 ≤ c ∧ c ≤ 92) h h2 → g 1 = f 1 → RgS h2 87 20 → RgS h2 90 20 → g 2 = (j : Int) → g 3 = 1 → j ≤ n → rdRule t n = .inl j → z_X l G mtX5_readAsRule lv 0 0 (ruQ h f (rdRule t n)) 0 0 (sA h2 85 g) 103 [vR 85] [] := by
    intro h2 g j hfr g1 s1 s2 g2 g3 hj he
    have hTg := hTT h2 g hfr g1
    have k02 := hTg.1
    have r22 := hTg.2.2.2.2.1
    generalize hQ : ruQ h f (rdRule t n) = QQ
    refine z_run1 tsX5_readAsRule [] 30 ?_
    simp (maxSteps := 1000000) -implicitDefEqProofs +contextual (disch := omega) only [z_wp_t, z_wp_u, ↓pI_e, ↓pL_e, ↓pO_e, ↓pR_e, ↓p1_I, ↓p1_O, z_gl, z_st1, z_st2, z_nl_I, z_nl_O, z_nl_J, z_nl_L, if_true, if_false, ite_true, ite_false, true_and, and_true, List.mem_cons, List.not_mem_nil, or_false, false_or, or_self, List.length_cons, List.length_nil, InR_t, InL_t, z_ix_t, mI_s1, mI_s2, ↓brT, ↓brF, ↓brT', ↓brF', mL_sI, mR_sI, mK_sI, mS_sI, mI_sL, mL_s1, mL_s2, mR_sL, mK_sL, mS_sL, mI_sR, mL_sR, mR_s1, mR_s2, mK_sR, mS_sR, mA_s1, mA_s2, mL_sA, mR_sA, mK_sA, mS_sA, ix_n, ix_a, ix_m, ix_s, z_sw, z_stop, forall_const, true_implies, false_implies, imp_self, implies_true, not_true_eq_false, not_false_eq_true, ne_eq, eq_self, Option.some.injEq, reduceCtorEq, Nat.reduceAdd, Nat.reduceSub, Nat.reduceMul, Nat.reduceEqDiff, Nat.reduceLT, Nat.reduceLeDiff, Int.reduceAdd, Int.reduceMul, Int.reduceSub, Int.reduceNeg, Int.reduceToNat, Int.reduceLT, Int.reduceLE, Int.reduceEq, ↓reduceIte, List.reverse_cons, Option.toList, List.cons_append, List.nil_append, vI_inj, vL_inj, vO_inj, rI, rL, rO, rV, mI_sQ, mL_sQ, mK_sQ, mS_sQ, mQ_s1, mQ_s2, tlX5_readAsRule, tkX5_readAsRule, o_aload, o_getI, o_getR, o_goto, o_iadd, o_ic, o_iceq, o_ifeq, o_ifne, o_iret, o_putI, o_putZ, k02]
    try simp +contextual (disch := omega) only [impF, impT, and_true, true_and, implies_true, not_false_eq_true, not_true_eq_false]
    refine x_callV (by decide +kernel) cv_X5_55 (sp_parseBetween1 l G h2 g t n j 97 104 hTg g2 hj g3 2 (by omega)) k02 (by omega) rfl (by omega) (by omega) rfl (Nat.le_of_ble_eq_true rfl) ?_
    rintro r h' ⟨rfl, rfl⟩
    refine z_run1 tsX5_readAsRule [] 30 ?_
    simp (maxSteps := 1000000) -implicitDefEqProofs +contextual (disch := omega) only [z_wp_t, z_wp_u, ↓pI_e, ↓pL_e, ↓pO_e, ↓pR_e, ↓p1_I, ↓p1_O, z_gl, z_st1, z_st2, z_nl_I, z_nl_O, z_nl_J, z_nl_L, if_true, if_false, ite_true, ite_false, true_and, and_true, List.mem_cons, List.not_mem_nil, or_false, false_or, or_self, List.length_cons, List.length_nil, InR_t, InL_t, z_ix_t, mI_s1, mI_s2, ↓brT, ↓brF, ↓brT', ↓brF', mL_sI, mR_sI, mK_sI, mS_sI, mI_sL, mL_s1, mL_s2, mR_sL, mK_sL, mS_sL, mI_sR, mL_sR, mR_s1, mR_s2, mK_sR, mS_sR, mA_s1, mA_s2, mL_sA, mR_sA, mK_sA, mS_sA, ix_n, ix_a, ix_m, ix_s, z_sw, z_stop, forall_const, true_implies, false_implies, imp_self, implies_true, not_true_eq_false, not_false_eq_true, ne_eq, eq_self, Option.some.injEq, reduceCtorEq, Nat.reduceAdd, Nat.reduceSub, Nat.reduceMul, Nat.reduceEqDiff, Nat.reduceLT, Nat.reduceLeDiff, Int.reduceAdd, Int.reduceMul, Int.reduceSub, Int.reduceNeg, Int.reduceToNat, Int.reduceLT, Int.reduceLE, Int.reduceEq, ↓reduceIte, List.reverse_cons, Option.toList, List.cons_append, List.nil_append, vI_inj, vL_inj, vO_inj, rI, rL, rO, rV, mI_sQ, mL_sQ, mK_sQ, mS_sQ, mQ_s1, mQ_s2, tlX5_readAsRule, tkX5_readAsRule, o_aload, o_getI, o_getR, o_goto, o_iadd, o_ic, o_iceq, o_ifeq, o_ifne, o_iret, o_putI, o_putZ, k02, r22, sI_sA]
    try simp +contextual (disch := omega) only [impF, impT, and_true, true_and, implies_true, not_false_eq_true, not_true_eq_false]
    refine x_callV (by decide +kernel) cv_X5_34 (sp_parseRange1 l G h2 (up g 8 (-1)) t n 90 (hTg.up (by rw [up_n _ _ (by decide)])) (by rw [up_n _ _ (by decide)]; exact g3) (Or.inr rfl) s2 2 (by omega)) k02 (by omega) rfl (by omega) (by omega) rfl (Nat.le_of_ble_eq_true rfl) ?_
    rintro r h' ⟨rfl, rfl⟩
    have hfr3 : Fr (fun c => 87 ≤ c ∧ c ≤ 92) h (sI h2 90 2 0) := hfr.tr' (Fr.sI (fun c => c = 90) _ _ _ _ rfl) (fun _ q => q) (fun c q => by omega)
    have hTg3 := hTT _ (up g 8 (-1)) hfr3 (by rw [up_n _ _ (by decide)]; exact g1)
    have k03 := hTg3.1
    refine z_run1 tsX5_readAsRule [] 30 ?_
    simp (maxSteps := 1000000) -implicitDefEqProofs +contextual (disch := omega) only [z_wp_t, z_wp_u, ↓pI_e, ↓pL_e, ↓pO_e, ↓pR_e, ↓p1_I, ↓p1_O, z_gl, z_st1, z_st2, z_nl_I, z_nl_O, z_nl_J, z_nl_L, if_true, if_false, ite_true, ite_false, true_and, and_true, List.mem_cons, List.not_mem_nil, or_false, false_or, or_self, List.length_cons, List.length_nil, InR_t, InL_t, z_ix_t, mI_s1, mI_s2, ↓brT, ↓brF, ↓brT', ↓brF', mL_sI, mR_sI, mK_sI, mS_sI, mI_sL, mL_s1, mL_s2, mR_sL, mK_sL, mS_sL, mI_sR, mL_sR, mR_s1, mR_s2, mK_sR, mS_sR, mA_s1, mA_s2, mL_sA, mR_sA, mK_sA, mS_sA, ix_n, ix_a, ix_m, ix_s, z_sw, z_stop, forall_const, true_implies, false_implies, imp_self, implies_true, not_true_eq_false, not_false_eq_true, ne_eq, eq_self, Option.some.injEq, reduceCtorEq, Nat.reduceAdd, Nat.reduceSub, Nat.reduceMul, Nat.reduceEqDiff, Nat.reduceLT, Nat.reduceLeDiff, Int.reduceAdd, Int.reduceMul, Int.reduceSub, Int.reduceNeg, Int.reduceToNat, Int.reduceLT, Int.reduceLE, Int.reduceEq, ↓reduceIte, List.reverse_cons, Option.toList, List.cons_append, List.nil_append, vI_inj, vL_inj, vO_inj, rI, rL, rO, rV, mI_sQ, mL_sQ, mK_sQ, mS_sQ, mQ_s1, mQ_s2, tlX5_readAsRule, tkX5_readAsRule, o_aload, o_getI, o_getR, o_goto, o_iadd, o_ic, o_iceq, o_ifeq, o_ifne, o_iret, o_putI, o_putZ, k03]
    try simp +contextual (disch := omega) only [impF, impT, and_true, true_and, implies_true, not_false_eq_true, not_true_eq_false]
    refine x_callV (by decide +kernel) cv_X5_38 (sp_expectEnd l G _ (up g 8 (-1)) t n j hTg3 (by rw [up_n _ _ (by decide)]; exact g2) (by omega) 1 (by omega)) k03 (by omega) rfl (by omega) (by omega) rfl (Nat.le_of_ble_eq_true rfl) ?_
    rintro r h' ⟨rfl, rfl⟩
    have e3 : (if j < n then up (up g 8 (-1)) 3 1 else up g 8 (-1)) = up g 8 (-1) := by
      split
      · exact up_same (by rw [up_n _ _ (by decide)]; exact g3)
      · rfl
    rw [e3]
    have e4 : up g 8 (-1) 3 = 1 := by rw [up_n _ _ (by decide)]; exact g3
    have e5 : up g 8 (-1) 2 = (j : Int) := by rw [up_n _ _ (by decide)]; exact g2
    refine z_run1 tsX5_readAsRule [] 30 ?_
    simp (maxSteps := 1000000) -implicitDefEqProofs +contextual (disch := omega) only [z_wp_t, z_wp_u, ↓pI_e, ↓pL_e, ↓pO_e, ↓pR_e, ↓p1_I, ↓p1_O, z_gl, z_st1, z_st2, z_nl_I, z_nl_O, z_nl_J, z_nl_L, if_true, if_false, ite_true, ite_false, true_and, and_true, List.mem_cons, List.not_mem_nil, or_false, false_or, or_self, List.length_cons, List.length_nil, InR_t, InL_t, z_ix_t, mI_s1, mI_s2, ↓brT, ↓brF, ↓brT', ↓brF', mL_sI, mR_sI, mK_sI, mS_sI, mI_sL, mL_s1, mL_s2, mR_sL, mK_sL, mS_sL, mI_sR, mL_sR, mR_s1, mR_s2, mK_sR, mS_sR, mA_s1, mA_s2, mL_sA, mR_sA, mK_sA, mS_sA, ix_n, ix_a, ix_m, ix_s, z_sw, z_stop, forall_const, true_implies, false_implies, imp_self, implies_true, not_true_eq_false, not_false_eq_true, ne_eq, eq_self, Option.some.injEq, reduceCtorEq, Nat.reduceAdd, Nat.reduceSub, Nat.reduceMul, Nat.reduceEqDiff, Nat.reduceLT, Nat.reduceLeDiff, Int.reduceAdd, Int.reduceMul, Int.reduceSub, Int.reduceNeg, Int.reduceToNat, Int.reduceLT, Int.reduceLE, Int.reduceEq, ↓reduceIte, List.reverse_cons, Option.toList, List.cons_append, List.nil_append, vI_inj, vL_inj, vO_inj, rI, rL, rO, rV, mI_sQ, mL_sQ, mK_sQ, mS_sQ, mQ_s1, mQ_s2, tlX5_readAsRule, tkX5_readAsRule, o_aload, o_getI, o_getR, o_goto, o_iadd, o_ic, o_iceq, o_ifeq, o_ifne, o_iret, o_putI, o_putZ, k02, e4, e5]
    try simp +contextual (disch := omega) only [impF, impT, and_true, true_and, implies_true, not_false_eq_true, not_true_eq_false]
    rw [← hQ, he]
    exact ⟨rfl, sI h2 90 2 0, up g 8 (-1), rfl, hfr3, (by rw [up_n _ _ (by decide)]; exact g1), s1, s2, (fun d q => by cases q)⟩
  have f79 : ∀ (h2 : zH) (g : Nat → Int) (j : Nat), Fr (fun c => 87 ≤ c ∧ c ≤ 92) h h2 → g 1 = f 1 → RgS h2 87 20 → RgS h2 90 20 → g 2 = (j : Int) → g 3 = 1 → j ≤ n → rdRule t n = .inl j → z_X l G mtX5_readAsRule lv 0 0 (ruQ h f (rdRule t n)) 0 0 (sA h2 85 g) 79 [vR 85] [] := by
    intro h2 g j hfr g1 s1 s2 g2 g3 hj he
    have hTg := hTT h2 g hfr g1
    have k02 := hTg.1
    have hnx := f103 h2 (up g 7 0) j hfr (by rw [up_n _ _ (by decide)]; exact g1) s1 s2 (by rw [up_n _ _ (by decide)]; exact g2) (by rw [up_n _ _ (by decide)]; exact g3) hj he
    generalize hQ : ruQ h f (rdRule t n) = QQ at hnx ⊢
    refine z_run1 tsX5_readAsRule [] 30 ?_
    simp (maxSteps := 1000000) -implicitDefEqProofs +contextual (disch := omega) only [z_wp_t, z_wp_u, ↓pI_e, ↓pL_e, ↓pO_e, ↓pR_e, ↓p1_I, ↓p1_O, z_gl, z_st1, z_st2, z_nl_I, z_nl_O, z_nl_J, z_nl_L, if_true, if_false, ite_true, ite_false, true_and, and_true, List.mem_cons, List.not_mem_nil, or_false, false_or, or_self, List.length_cons, List.length_nil, InR_t, InL_t, z_ix_t, mI_s1, mI_s2, ↓brT, ↓brF, ↓brT', ↓brF', mL_sI, mR_sI, mK_sI, mS_sI, mI_sL, mL_s1, mL_s2, mR_sL, mK_sL, mS_sL, mI_sR, mL_sR, mR_s1, mR_s2, mK_sR, mS_sR, mA_s1, mA_s2, mL_sA, mR_sA, mK_sA, mS_sA, ix_n, ix_a, ix_m, ix_s, z_sw, z_stop, forall_const, true_implies, false_implies, imp_self, implies_true, not_true_eq_false, not_false_eq_true, ne_eq, eq_self, Option.some.injEq, reduceCtorEq, Nat.reduceAdd, Nat.reduceSub, Nat.reduceMul, Nat.reduceEqDiff, Nat.reduceLT, Nat.reduceLeDiff, Int.reduceAdd, Int.reduceMul, Int.reduceSub, Int.reduceNeg, Int.reduceToNat, Int.reduceLT, Int.reduceLE, Int.reduceEq, ↓reduceIte, List.reverse_cons, Option.toList, List.cons_append, List.nil_append, vI_inj, vL_inj, vO_inj, rI, rL, rO, rV, mI_sQ, mL_sQ, mK_sQ, mS_sQ, mQ_s1, mQ_s2, tlX5_readAsRule, tkX5_readAsRule, o_aload, o_getI, o_getR, o_goto, o_iadd, o_ic, o_iceq, o_ifeq, o_ifne, o_iret, o_putI, o_putZ, k02]
    try simp +contextual (disch := omega) only [impF, impT, and_true, true_and, implies_true, not_false_eq_true, not_true_eq_false]
    refine x_callV (by decide +kernel) cv_X5_52 (sp_take1 l G h2 g t n 58 hTg g3 2 (by omega)) k02 (by omega) rfl (by omega) (by omega) rfl (Nat.le_of_ble_eq_true rfl) ?_
    rintro r h' ⟨rfl, rfl⟩
    refine z_run1 tsX5_readAsRule [] 30 ?_
    simp (maxSteps := 1000000) -implicitDefEqProofs +contextual (disch := omega) only [z_wp_t, z_wp_u, ↓pI_e, ↓pL_e, ↓pO_e, ↓pR_e, ↓p1_I, ↓p1_O, z_gl, z_st1, z_st2, z_nl_I, z_nl_O, z_nl_J, z_nl_L, if_true, if_false, ite_true, ite_false, true_and, and_true, List.mem_cons, List.not_mem_nil, or_false, false_or, or_self, List.length_cons, List.length_nil, InR_t, InL_t, z_ix_t, mI_s1, mI_s2, ↓brT, ↓brF, ↓brT', ↓brF', mL_sI, mR_sI, mK_sI, mS_sI, mI_sL, mL_s1, mL_s2, mR_sL, mK_sL, mS_sL, mI_sR, mL_sR, mR_s1, mR_s2, mK_sR, mS_sR, mA_s1, mA_s2, mL_sA, mR_sA, mK_sA, mS_sA, ix_n, ix_a, ix_m, ix_s, z_sw, z_stop, forall_const, true_implies, false_implies, imp_self, implies_true, not_true_eq_false, not_false_eq_true, ne_eq, eq_self, Option.some.injEq, reduceCtorEq, Nat.reduceAdd, Nat.reduceSub, Nat.reduceMul, Nat.reduceEqDiff, Nat.reduceLT, Nat.reduceLeDiff, Int.reduceAdd, Int.reduceMul, Int.reduceSub, Int.reduceNeg, Int.reduceToNat, Int.reduceLT, Int.reduceLE, Int.reduceEq, ↓reduceIte, List.reverse_cons, Option.toList, List.cons_append, List.nil_append, vI_inj, vL_inj, vO_inj, rI, rL, rO, rV, mI_sQ, mL_sQ, mK_sQ, mS_sQ, mQ_s1, mQ_s2, tlX5_readAsRule, tkX5_readAsRule, o_aload, o_getI, o_getR, o_goto, o_iadd, o_ic, o_iceq, o_ifeq, o_ifne, o_iret, o_putI, o_putZ, k02, sI_sA]
    try simp +contextual (disch := omega) only [impF, impT, and_true, true_and, implies_true, not_false_eq_true, not_true_eq_false]
    rw [up_same g3]
    refine x_callV (by decide +kernel) cv_X5_52 (sp_take1 l G h2 g t n 33 hTg g3 2 (by omega)) k02 (by omega) rfl (by omega) (by omega) rfl (Nat.le_of_ble_eq_true rfl) ?_
    rintro r h' ⟨rfl, rfl⟩
    refine z_run1 tsX5_readAsRule [103] 30 ?_
    simp (maxSteps := 1000000) -implicitDefEqProofs +contextual (disch := omega) only [z_wp_t, z_wp_u, ↓pI_e, ↓pL_e, ↓pO_e, ↓pR_e, ↓p1_I, ↓p1_O, z_gl, z_st1, z_st2, z_nl_I, z_nl_O, z_nl_J, z_nl_L, if_true, if_false, ite_true, ite_false, true_and, and_true, List.mem_cons, List.not_mem_nil, or_false, false_or, or_self, List.length_cons, List.length_nil, InR_t, InL_t, z_ix_t, mI_s1, mI_s2, ↓brT, ↓brF, ↓brT', ↓brF', mL_sI, mR_sI, mK_sI, mS_sI, mI_sL, mL_s1, mL_s2, mR_sL, mK_sL, mS_sL, mI_sR, mL_sR, mR_s1, mR_s2, mK_sR, mS_sR, mA_s1, mA_s2, mL_sA, mR_sA, mK_sA, mS_sA, ix_n, ix_a, ix_m, ix_s, z_sw, z_stop, forall_const, true_implies, false_implies, imp_self, implies_true, not_true_eq_false, not_false_eq_true, ne_eq, eq_self, Option.some.injEq, reduceCtorEq, Nat.reduceAdd, Nat.reduceSub, Nat.reduceMul, Nat.reduceEqDiff, Nat.reduceLT, Nat.reduceLeDiff, Int.reduceAdd, Int.reduceMul, Int.reduceSub, Int.reduceNeg, Int.reduceToNat, Int.reduceLT, Int.reduceLE, Int.reduceEq, ↓reduceIte, List.reverse_cons, Option.toList, List.cons_append, List.nil_append, vI_inj, vL_inj, vO_inj, rI, rL, rO, rV, mI_sQ, mL_sQ, mK_sQ, mS_sQ, mQ_s1, mQ_s2, tlX5_readAsRule, tkX5_readAsRule, o_aload, o_getI, o_getR, o_goto, o_iadd, o_ic, o_iceq, o_ifeq, o_ifne, o_iret, o_putI, o_putZ, k02, sI_sA]
    try simp +contextual (disch := omega) only [impF, impT, and_true, true_and, implies_true, not_false_eq_true, not_true_eq_false]
    exact hnx
  -- the target's package and range
  have d103 : ∀ (h2 : zH) (g : Nat → Int) (i : Nat) (fb : Int) (a : Int × Nat) (b : Int × Nat × List (Int × Int)), Fr (fun c => 87 ≤ c ∧ c ≤ 92) h h2 → g 1 = f 1 → RgS h2 87 20 → RgS h2 90 20 → g 2 = (i : Int) → g 3 = 0 → i ≤ n → g 4 = a.1 → g 5 = b.1 → RgL h2 87 b.2.2 → g 7 = fb → rdRule t n = (match rdD t n i fb with | .inl j => .inl j | .inr c => .inr (a.1, b.1, b.2.2, c.1, c.2.1, c.2.2)) → z_X l G mtX5_readAsRule lv 0 0 (ruQ h f (rdRule t n)) 0 0 (sA h2 85 g) 103 [vR 85] [] := by
    intro h2 g i fb a b hfr g1 s1 s2 g2 g3 hi g4 g5 hL g7 he
    have hTg := hTT h2 g hfr g1
    have k02 := hTg.1
    have r22 := hTg.2.2.2.2.1
    generalize hQ : ruQ h f (rdRule t n) = QQ
    refine z_run1 tsX5_readAsRule [] 30 ?_
    simp (maxSteps := 1000000) -implicitDefEqProofs +contextual (disch := omega) only [z_wp_t, z_wp_u, ↓pI_e, ↓pL_e, ↓pO_e, ↓pR_e, ↓p1_I, ↓p1_O, z_gl, z_st1, z_st2, z_nl_I, z_nl_O, z_nl_J, z_nl_L, if_true, if_false, ite_true, ite_false, true_and, and_true, List.mem_cons, List.not_mem_nil, or_false, false_or, or_self, List.length_cons, List.length_nil, InR_t, InL_t, z_ix_t, mI_s1, mI_s2, ↓brT, ↓brF, ↓brT', ↓brF', mL_sI, mR_sI, mK_sI, mS_sI, mI_sL, mL_s1, mL_s2, mR_sL, mK_sL, mS_sL, mI_sR, mL_sR, mR_s1, mR_s2, mK_sR, mS_sR, mA_s1, mA_s2, mL_sA, mR_sA, mK_sA, mS_sA, ix_n, ix_a, ix_m, ix_s, z_sw, z_stop, forall_const, true_implies, false_implies, imp_self, implies_true, not_true_eq_false, not_false_eq_true, ne_eq, eq_self, Option.some.injEq, reduceCtorEq, Nat.reduceAdd, Nat.reduceSub, Nat.reduceMul, Nat.reduceEqDiff, Nat.reduceLT, Nat.reduceLeDiff, Int.reduceAdd, Int.reduceMul, Int.reduceSub, Int.reduceNeg, Int.reduceToNat, Int.reduceLT, Int.reduceLE, Int.reduceEq, ↓reduceIte, List.reverse_cons, Option.toList, List.cons_append, List.nil_append, vI_inj, vL_inj, vO_inj, rI, rL, rO, rV, mI_sQ, mL_sQ, mK_sQ, mS_sQ, mQ_s1, mQ_s2, tlX5_readAsRule, tkX5_readAsRule, o_aload, o_getI, o_getR, o_goto, o_iadd, o_ic, o_iceq, o_ifeq, o_ifne, o_iret, o_putI, o_putZ, k02]
    try simp +contextual (disch := omega) only [impF, impT, and_true, true_and, implies_true, not_false_eq_true, not_true_eq_false]
    refine x_callV (by decide +kernel) cv_X5_55 (sp_parseBetween l G h2 g t n i 97 104 hTg g2 hi g3 (by omega) (by omega) 2 (by omega)) k02 (by omega) rfl (by omega) (by omega) rfl (Nat.le_of_ble_eq_true rfl) ?_
    intro r h' hq
    by_cases hp : 97 ≤ ck t n i ∧ ck t n i ≤ 104
    · rw [if_pos hp] at hq
      obtain ⟨rfl, rfl⟩ := hq
      have hin := ck_lt (t := t) (n := n) (i := i) (by omega)
      have hsk := sk_le t (n := n) (i := i + 1) (by omega)
      have hro := pRg_ok (t := t) (n := n) 20 (sk t n (i + 1)) [] hsk.2
      unfold rdD at he
      rw [if_pos hp] at he
      generalize hg0 : up (up g 2 ((sk t n (i + 1) : Nat) : Int)) 8 (ck t n i - 97) = g0
      have z1 : g0 1 = f 1 := by rw [← hg0, up_n _ _ (by decide), up_n _ _ (by decide)]; exact g1
      have z2 : g0 2 = ((sk t n (i + 1) : Nat) : Int) := by rw [← hg0, up_n _ _ (by decide), up_s]
      have z3 : g0 3 = 0 := by rw [← hg0, up_n _ _ (by decide), up_n _ _ (by decide)]; exact g3
      have z4 : g0 4 = a.1 := by rw [← hg0, up_n _ _ (by decide), up_n _ _ (by decide)]; exact g4
      have z5 : g0 5 = b.1 := by rw [← hg0, up_n _ _ (by decide), up_n _ _ (by decide)]; exact g5
      have z7 : g0 7 = fb := by rw [← hg0, up_n _ _ (by decide), up_n _ _ (by decide)]; exact g7
      have z8 : g0 8 = ck t n i - 97 := by rw [← hg0, up_s]
      refine z_run1 tsX5_readAsRule [] 30 ?_
      simp (maxSteps := 1000000) -implicitDefEqProofs +contextual (disch := omega) only [z_wp_t, z_wp_u, ↓pI_e, ↓pL_e, ↓pO_e, ↓pR_e, ↓p1_I, ↓p1_O, z_gl, z_st1, z_st2, z_nl_I, z_nl_O, z_nl_J, z_nl_L, if_true, if_false, ite_true, ite_false, true_and, and_true, List.mem_cons, List.not_mem_nil, or_false, false_or, or_self, List.length_cons, List.length_nil, InR_t, InL_t, z_ix_t, mI_s1, mI_s2, ↓brT, ↓brF, ↓brT', ↓brF', mL_sI, mR_sI, mK_sI, mS_sI, mI_sL, mL_s1, mL_s2, mR_sL, mK_sL, mS_sL, mI_sR, mL_sR, mR_s1, mR_s2, mK_sR, mS_sR, mA_s1, mA_s2, mL_sA, mR_sA, mK_sA, mS_sA, ix_n, ix_a, ix_m, ix_s, z_sw, z_stop, forall_const, true_implies, false_implies, imp_self, implies_true, not_true_eq_false, not_false_eq_true, ne_eq, eq_self, Option.some.injEq, reduceCtorEq, Nat.reduceAdd, Nat.reduceSub, Nat.reduceMul, Nat.reduceEqDiff, Nat.reduceLT, Nat.reduceLeDiff, Int.reduceAdd, Int.reduceMul, Int.reduceSub, Int.reduceNeg, Int.reduceToNat, Int.reduceLT, Int.reduceLE, Int.reduceEq, ↓reduceIte, List.reverse_cons, Option.toList, List.cons_append, List.nil_append, vI_inj, vL_inj, vO_inj, rI, rL, rO, rV, mI_sQ, mL_sQ, mK_sQ, mS_sQ, mQ_s1, mQ_s2, tlX5_readAsRule, tkX5_readAsRule, o_aload, o_getI, o_getR, o_goto, o_iadd, o_ic, o_iceq, o_ifeq, o_ifne, o_iret, o_putI, o_putZ, k02, r22, sI_sA, hg0]
      try simp +contextual (disch := omega) only [impF, impT, and_true, true_and, implies_true, not_false_eq_true, not_true_eq_false]
      refine x_callV (by decide +kernel) cv_X5_34 (sp_parseRange l G h2 g0 t n (sk t n (i + 1)) 90 (hTT h2 g0 hfr z1) z2 hsk.2 z3 (Or.inr rfl) s2 5 (by omega)) k02 (by omega) rfl (by omega) (by omega) rfl (Nat.le_of_ble_eq_true rfl) ?_
      rintro r h' ⟨rfl, h3, g', rfl, hfr', hg6, q2, q3, q4, q5⟩
      generalize hx : pRg t n 20 (sk t n (i + 1)) [] = x at hro he q2 q3 q4
      obtain ⟨ok, j, pl⟩ := x
      simp only at hro he q2 q3 q4
      have hfr3 : Fr (fun c => 87 ≤ c ∧ c ≤ 92) h h3 := hfr.tr' hfr' (fun _ q => q) (fun c q => by omega)
      have w1 : g' 1 = f 1 := (hg6 1 (by decide) (by decide) (by decide) (by decide) (by decide) (by decide)).trans z1
      have w4 : g' 4 = a.1 := (hg6 4 (by decide) (by decide) (by decide) (by decide) (by decide) (by decide)).trans z4
      have w5 : g' 5 = b.1 := (hg6 5 (by decide) (by decide) (by decide) (by decide) (by decide) (by decide)).trans z5
      have w7 : g' 7 = fb := (hg6 7 (by decide) (by decide) (by decide) (by decide) (by decide) (by decide)).trans z7
      have w8 : g' 8 = ck t n i - 97 := (hg6 8 (by decide) (by decide) (by decide) (by decide) (by decide) (by decide)).trans z8
      have s1' : RgS h3 87 20 := s1.fr hfr' (by omega)
      have hL' : RgL h3 87 b.2.2 := hL.fr hfr' ⟨by omega, by omega, by omega⟩
      have hTg3 := hTT h3 g' hfr3 w1
      have k03 := hTg3.1
      refine z_run1 tsX5_readAsRule [] 30 ?_
      simp (maxSteps := 1000000) -implicitDefEqProofs +contextual (disch := omega) only [z_wp_t, z_wp_u, ↓pI_e, ↓pL_e, ↓pO_e, ↓pR_e, ↓p1_I, ↓p1_O, z_gl, z_st1, z_st2, z_nl_I, z_nl_O, z_nl_J, z_nl_L, if_true, if_false, ite_true, ite_false, true_and, and_true, List.mem_cons, List.not_mem_nil, or_false, false_or, or_self, List.length_cons, List.length_nil, InR_t, InL_t, z_ix_t, mI_s1, mI_s2, ↓brT, ↓brF, ↓brT', ↓brF', mL_sI, mR_sI, mK_sI, mS_sI, mI_sL, mL_s1, mL_s2, mR_sL, mK_sL, mS_sL, mI_sR, mL_sR, mR_s1, mR_s2, mK_sR, mS_sR, mA_s1, mA_s2, mL_sA, mR_sA, mK_sA, mS_sA, ix_n, ix_a, ix_m, ix_s, z_sw, z_stop, forall_const, true_implies, false_implies, imp_self, implies_true, not_true_eq_false, not_false_eq_true, ne_eq, eq_self, Option.some.injEq, reduceCtorEq, Nat.reduceAdd, Nat.reduceSub, Nat.reduceMul, Nat.reduceEqDiff, Nat.reduceLT, Nat.reduceLeDiff, Int.reduceAdd, Int.reduceMul, Int.reduceSub, Int.reduceNeg, Int.reduceToNat, Int.reduceLT, Int.reduceLE, Int.reduceEq, ↓reduceIte, List.reverse_cons, Option.toList, List.cons_append, List.nil_append, vI_inj, vL_inj, vO_inj, rI, rL, rO, rV, mI_sQ, mL_sQ, mK_sQ, mS_sQ, mQ_s1, mQ_s2, tlX5_readAsRule, tkX5_readAsRule, o_aload, o_getI, o_getR, o_goto, o_iadd, o_ic, o_iceq, o_ifeq, o_ifne, o_iret, o_putI, o_putZ, k03]
      try simp +contextual (disch := omega) only [impF, impT, and_true, true_and, implies_true, not_false_eq_true, not_true_eq_false]
      refine x_callV (by decide +kernel) cv_X5_38 (sp_expectEnd l G h3 g' t n j hTg3 q2 (by omega) 1 (by omega)) k03 (by omega) rfl (by omega) (by omega) rfl (Nat.le_of_ble_eq_true rfl) ?_
      rintro r h' ⟨rfl, rfl⟩
      by_cases hj : j < n
      · rw [if_pos hj]
        rw [if_neg (fun q => q.2 hj)] at he
        have e4 : up g' 3 1 3 = 1 := up_s _ _ _
        have e5 : up g' 3 1 2 = (j : Int) := by rw [up_n _ _ (by decide)]; exact q2
        refine z_run1 tsX5_readAsRule [] 30 ?_
        simp (maxSteps := 1000000) -implicitDefEqProofs +contextual (disch := omega) only [z_wp_t, z_wp_u, ↓pI_e, ↓pL_e, ↓pO_e, ↓pR_e, ↓p1_I, ↓p1_O, z_gl, z_st1, z_st2, z_nl_I, z_nl_O, z_nl_J, z_nl_L, if_true, if_false, ite_true, ite_false, true_and, and_true, List.mem_cons, List.not_mem_nil, or_false, false_or, or_self, List.length_cons, List.length_nil, InR_t, InL_t, z_ix_t, mI_s1, mI_s2, ↓brT, ↓brF, ↓brT', ↓brF', mL_sI, mR_sI, mK_sI, mS_sI, mI_sL, mL_s1, mL_s2, mR_sL, mK_sL, mS_sL, mI_sR, mL_sR, mR_s1, mR_s2, mK_sR, mS_sR, mA_s1, mA_s2, mL_sA, mR_sA, mK_sA, mS_sA, ix_n, ix_a, ix_m, ix_s, z_sw, z_stop, forall_const, true_implies, false_implies, imp_self, implies_true, not_true_eq_false, not_false_eq_true, ne_eq, eq_self, Option.some.injEq, reduceCtorEq, Nat.reduceAdd, Nat.reduceSub, Nat.reduceMul, Nat.reduceEqDiff, Nat.reduceLT, Nat.reduceLeDiff, Int.reduceAdd, Int.reduceMul, Int.reduceSub, Int.reduceNeg, Int.reduceToNat, Int.reduceLT, Int.reduceLE, Int.reduceEq, ↓reduceIte, List.reverse_cons, Option.toList, List.cons_append, List.nil_append, vI_inj, vL_inj, vO_inj, rI, rL, rO, rV, mI_sQ, mL_sQ, mK_sQ, mS_sQ, mQ_s1, mQ_s2, tlX5_readAsRule, tkX5_readAsRule, o_aload, o_getI, o_getR, o_goto, o_iadd, o_ic, o_iceq, o_ifeq, o_ifne, o_iret, o_putI, o_putZ, k03, e4, e5]
        try simp +contextual (disch := omega) only [impF, impT, and_true, true_and, implies_true, not_false_eq_true, not_true_eq_false]
        rw [← hQ, he]
        exact ⟨rfl, h3, up g' 3 1, rfl, hfr3, (by rw [up_n _ _ (by decide)]; exact w1), s1', q5, (fun d q => by cases q)⟩
      · rw [if_neg hj]
        cases ok
        · simp only [Bool.false_eq_true, if_false, false_and] at q3 he
          refine z_run1 tsX5_readAsRule [] 30 ?_
          simp (maxSteps := 1000000) -implicitDefEqProofs +contextual (disch := omega) only [z_wp_t, z_wp_u, ↓pI_e, ↓pL_e, ↓pO_e, ↓pR_e, ↓p1_I, ↓p1_O, z_gl, z_st1, z_st2, z_nl_I, z_nl_O, z_nl_J, z_nl_L, if_true, if_false, ite_true, ite_false, true_and, and_true, List.mem_cons, List.not_mem_nil, or_false, false_or, or_self, List.length_cons, List.length_nil, InR_t, InL_t, z_ix_t, mI_s1, mI_s2, ↓brT, ↓brF, ↓brT', ↓brF', mL_sI, mR_sI, mK_sI, mS_sI, mI_sL, mL_s1, mL_s2, mR_sL, mK_sL, mS_sL, mI_sR, mL_sR, mR_s1, mR_s2, mK_sR, mS_sR, mA_s1, mA_s2, mL_sA, mR_sA, mK_sA, mS_sA, ix_n, ix_a, ix_m, ix_s, z_sw, z_stop, forall_const, true_implies, false_implies, imp_self, implies_true, not_true_eq_false, not_false_eq_true, ne_eq, eq_self, Option.some.injEq, reduceCtorEq, Nat.reduceAdd, Nat.reduceSub, Nat.reduceMul, Nat.reduceEqDiff, Nat.reduceLT, Nat.reduceLeDiff, Int.reduceAdd, Int.reduceMul, Int.reduceSub, Int.reduceNeg, Int.reduceToNat, Int.reduceLT, Int.reduceLE, Int.reduceEq, ↓reduceIte, List.reverse_cons, Option.toList, List.cons_append, List.nil_append, vI_inj, vL_inj, vO_inj, rI, rL, rO, rV, mI_sQ, mL_sQ, mK_sQ, mS_sQ, mQ_s1, mQ_s2, tlX5_readAsRule, tkX5_readAsRule, o_aload, o_getI, o_getR, o_goto, o_iadd, o_ic, o_iceq, o_ifeq, o_ifne, o_iret, o_putI, o_putZ, k03, q3, q2]
          try simp +contextual (disch := omega) only [impF, impT, and_true, true_and, implies_true, not_false_eq_true, not_true_eq_false]
          rw [← hQ, he]
          exact ⟨rfl, h3, g', rfl, hfr3, w1, s1', q5, (fun d q => by cases q)⟩
        · simp only [if_true] at q3
          rw [if_pos ⟨rfl, hj⟩] at he
          refine z_run1 tsX5_readAsRule [] 30 ?_
          simp (maxSteps := 1000000) -implicitDefEqProofs +contextual (disch := omega) only [z_wp_t, z_wp_u, ↓pI_e, ↓pL_e, ↓pO_e, ↓pR_e, ↓p1_I, ↓p1_O, z_gl, z_st1, z_st2, z_nl_I, z_nl_O, z_nl_J, z_nl_L, if_true, if_false, ite_true, ite_false, true_and, and_true, List.mem_cons, List.not_mem_nil, or_false, false_or, or_self, List.length_cons, List.length_nil, InR_t, InL_t, z_ix_t, mI_s1, mI_s2, ↓brT, ↓brF, ↓brT', ↓brF', mL_sI, mR_sI, mK_sI, mS_sI, mI_sL, mL_s1, mL_s2, mR_sL, mK_sL, mS_sL, mI_sR, mL_sR, mR_s1, mR_s2, mK_sR, mS_sR, mA_s1, mA_s2, mL_sA, mR_sA, mK_sA, mS_sA, ix_n, ix_a, ix_m, ix_s, z_sw, z_stop, forall_const, true_implies, false_implies, imp_self, implies_true, not_true_eq_false, not_false_eq_true, ne_eq, eq_self, Option.some.injEq, reduceCtorEq, Nat.reduceAdd, Nat.reduceSub, Nat.reduceMul, Nat.reduceEqDiff, Nat.reduceLT, Nat.reduceLeDiff, Int.reduceAdd, Int.reduceMul, Int.reduceSub, Int.reduceNeg, Int.reduceToNat, Int.reduceLT, Int.reduceLE, Int.reduceEq, ↓reduceIte, List.reverse_cons, Option.toList, List.cons_append, List.nil_append, vI_inj, vL_inj, vO_inj, rI, rL, rO, rV, mI_sQ, mL_sQ, mK_sQ, mS_sQ, mQ_s1, mQ_s2, tlX5_readAsRule, tkX5_readAsRule, o_aload, o_getI, o_getR, o_goto, o_iadd, o_ic, o_iceq, o_ifeq, o_ifne, o_iret, o_putI, o_putZ, k03, q3]
          try simp +contextual (disch := omega) only [impF, impT, and_true, true_and, implies_true, not_false_eq_true, not_true_eq_false]
          rw [← hQ, he]
          refine ⟨rfl, h3, g', rfl, hfr3, w1, s1', q5, (fun d q => ?_)⟩
          cases q
          exact ⟨w4, w5, hL', w7, w8, q4 rfl⟩
    · rw [if_neg hp] at hq
      obtain ⟨rfl, rfl⟩ := hq
      unfold rdD at he
      rw [if_neg hp] at he
      simp only at he
      generalize hg0 : up (up g 3 1) 8 (-1) = g0
      have z1 : g0 1 = f 1 := by rw [← hg0, up_n _ _ (by decide), up_n _ _ (by decide)]; exact g1
      have z2 : g0 2 = (i : Int) := by rw [← hg0, up_n _ _ (by decide), up_n _ _ (by decide)]; exact g2
      have z3 : g0 3 = 1 := by rw [← hg0, up_n _ _ (by decide), up_s]
      refine z_run1 tsX5_readAsRule [] 30 ?_
      simp (maxSteps := 1000000) -implicitDefEqProofs +contextual (disch := omega) only [z_wp_t, z_wp_u, ↓pI_e, ↓pL_e, ↓pO_e, ↓pR_e, ↓p1_I, ↓p1_O, z_gl, z_st1, z_st2, z_nl_I, z_nl_O, z_nl_J, z_nl_L, if_true, if_false, ite_true, ite_false, true_and, and_true, List.mem_cons, List.not_mem_nil, or_false, false_or, or_self, List.length_cons, List.length_nil, InR_t, InL_t, z_ix_t, mI_s1, mI_s2, ↓brT, ↓brF, ↓brT', ↓brF', mL_sI, mR_sI, mK_sI, mS_sI, mI_sL, mL_s1, mL_s2, mR_sL, mK_sL, mS_sL, mI_sR, mL_sR, mR_s1, mR_s2, mK_sR, mS_sR, mA_s1, mA_s2, mL_sA, mR_sA, mK_sA, mS_sA, ix_n, ix_a, ix_m, ix_s, z_sw, z_stop, forall_const, true_implies, false_implies, imp_self, implies_true, not_true_eq_false, not_false_eq_true, ne_eq, eq_self, Option.some.injEq, reduceCtorEq, Nat.reduceAdd, Nat.reduceSub, Nat.reduceMul, Nat.reduceEqDiff, Nat.reduceLT, Nat.reduceLeDiff, Int.reduceAdd, Int.reduceMul, Int.reduceSub, Int.reduceNeg, Int.reduceToNat, Int.reduceLT, Int.reduceLE, Int.reduceEq, ↓reduceIte, List.reverse_cons, Option.toList, List.cons_append, List.nil_append, vI_inj, vL_inj, vO_inj, rI, rL, rO, rV, mI_sQ, mL_sQ, mK_sQ, mS_sQ, mQ_s1, mQ_s2, tlX5_readAsRule, tkX5_readAsRule, o_aload, o_getI, o_getR, o_goto, o_iadd, o_ic, o_iceq, o_ifeq, o_ifne, o_iret, o_putI, o_putZ, k02, r22, sI_sA, hg0]
      try simp +contextual (disch := omega) only [impF, impT, and_true, true_and, implies_true, not_false_eq_true, not_true_eq_false]
      refine x_callV (by decide +kernel) cv_X5_34 (sp_parseRange1 l G h2 g0 t n 90 (hTT h2 g0 hfr z1) z3 (Or.inr rfl) s2 2 (by omega)) k02 (by omega) rfl (by omega) (by omega) rfl (Nat.le_of_ble_eq_true rfl) ?_
      rintro r h' ⟨rfl, rfl⟩
      have hfr3 : Fr (fun c => 87 ≤ c ∧ c ≤ 92) h (sI h2 90 2 0) := hfr.tr' (Fr.sI (fun c => c = 90) _ _ _ _ rfl) (fun _ q => q) (fun c q => by omega)
      have hTg3 := hTT _ g0 hfr3 z1
      have k03 := hTg3.1
      refine z_run1 tsX5_readAsRule [] 30 ?_
      simp (maxSteps := 1000000) -implicitDefEqProofs +contextual (disch := omega) only [z_wp_t, z_wp_u, ↓pI_e, ↓pL_e, ↓pO_e, ↓pR_e, ↓p1_I, ↓p1_O, z_gl, z_st1, z_st2, z_nl_I, z_nl_O, z_nl_J, z_nl_L, if_true, if_false, ite_true, ite_false, true_and, and_true, List.mem_cons, List.not_mem_nil, or_false, false_or, or_self, List.length_cons, List.length_nil, InR_t, InL_t, z_ix_t, mI_s1, mI_s2, ↓brT, ↓brF, ↓brT', ↓brF', mL_sI, mR_sI, mK_sI, mS_sI, mI_sL, mL_s1, mL_s2, mR_sL, mK_sL, mS_sL, mI_sR, mL_sR, mR_s1, mR_s2, mK_sR, mS_sR, mA_s1, mA_s2, mL_sA, mR_sA, mK_sA, mS_sA, ix_n, ix_a, ix_m, ix_s, z_sw, z_stop, forall_const, true_implies, false_implies, imp_self, implies_true, not_true_eq_false, not_false_eq_true, ne_eq, eq_self, Option.some.injEq, reduceCtorEq, Nat.reduceAdd, Nat.reduceSub, Nat.reduceMul, Nat.reduceEqDiff, Nat.reduceLT, Nat.reduceLeDiff, Int.reduceAdd, Int.reduceMul, Int.reduceSub, Int.reduceNeg, Int.reduceToNat, Int.reduceLT, Int.reduceLE, Int.reduceEq, ↓reduceIte, List.reverse_cons, Option.toList, List.cons_append, List.nil_append, vI_inj, vL_inj, vO_inj, rI, rL, rO, rV, mI_sQ, mL_sQ, mK_sQ, mS_sQ, mQ_s1, mQ_s2, tlX5_readAsRule, tkX5_readAsRule, o_aload, o_getI, o_getR, o_goto, o_iadd, o_ic, o_iceq, o_ifeq, o_ifne, o_iret, o_putI, o_putZ, k02]
      try simp +contextual (disch := omega) only [impF, impT, and_true, true_and, implies_true, not_false_eq_true, not_true_eq_false]
      refine x_callV (by decide +kernel) cv_X5_38 (sp_expectEnd l G _ g0 t n i hTg3 z2 (by omega) 1 (by omega)) k03 (by omega) rfl (by omega) (by omega) rfl (Nat.le_of_ble_eq_true rfl) ?_
      rintro r h' ⟨rfl, rfl⟩
      have e3 : (if i < n then up g0 3 1 else g0) = g0 := by
        split
        · exact up_same z3
        · rfl
      rw [e3]
      refine z_run1 tsX5_readAsRule [] 30 ?_
      simp (maxSteps := 1000000) -implicitDefEqProofs +contextual (disch := omega) only [z_wp_t, z_wp_u, ↓pI_e, ↓pL_e, ↓pO_e, ↓pR_e, ↓p1_I, ↓p1_O, z_gl, z_st1, z_st2, z_nl_I, z_nl_O, z_nl_J, z_nl_L, if_true, if_false, ite_true, ite_false, true_and, and_true, List.mem_cons, List.not_mem_nil, or_false, false_or, or_self, List.length_cons, List.length_nil, InR_t, InL_t, z_ix_t, mI_s1, mI_s2, ↓brT, ↓brF, ↓brT', ↓brF', mL_sI, mR_sI, mK_sI, mS_sI, mI_sL, mL_s1, mL_s2, mR_sL, mK_sL, mS_sL, mI_sR, mL_sR, mR_s1, mR_s2, mK_sR, mS_sR, mA_s1, mA_s2, mL_sA, mR_sA, mK_sA, mS_sA, ix_n, ix_a, ix_m, ix_s, z_sw, z_stop, forall_const, true_implies, false_implies, imp_self, implies_true, not_true_eq_false, not_false_eq_true, ne_eq, eq_self, Option.some.injEq, reduceCtorEq, Nat.reduceAdd, Nat.reduceSub, Nat.reduceMul, Nat.reduceEqDiff, Nat.reduceLT, Nat.reduceLeDiff, Int.reduceAdd, Int.reduceMul, Int.reduceSub, Int.reduceNeg, Int.reduceToNat, Int.reduceLT, Int.reduceLE, Int.reduceEq, ↓reduceIte, List.reverse_cons, Option.toList, List.cons_append, List.nil_append, vI_inj, vL_inj, vO_inj, rI, rL, rO, rV, mI_sQ, mL_sQ, mK_sQ, mS_sQ, mQ_s1, mQ_s2, tlX5_readAsRule, tkX5_readAsRule, o_aload, o_getI, o_getR, o_goto, o_iadd, o_ic, o_iceq, o_ifeq, o_ifne, o_iret, o_putI, o_putZ, k02, z3, z2]
      try simp +contextual (disch := omega) only [impF, impT, and_true, true_and, implies_true, not_false_eq_true, not_true_eq_false]
      rw [← hQ, he]
      exact ⟨rfl, sI h2 90 2 0, g0, rfl, hfr3, z1, s1, s2, (fun d q => by cases q)⟩
  -- the colon and the sign
  have c79 : ∀ (h2 : zH) (g : Nat → Int) (i : Nat) (a : Int × Nat) (b : Int × Nat × List (Int × Int)), Fr (fun c => 87 ≤ c ∧ c ≤ 92) h h2 → g 1 = f 1 → RgS h2 87 20 → RgS h2 90 20 → g 2 = (i : Int) → g 3 = 0 → i ≤ n → g 4 = a.1 → g 5 = b.1 → RgL h2 87 b.2.2 → rdRule t n = (match rdC t n i with | .inl j => .inl j | .inr c => .inr (a.1, b.1, b.2.2, c.1, c.2.1, c.2.2)) → z_X l G mtX5_readAsRule lv 0 0 (ruQ h f (rdRule t n)) 0 0 (sA h2 85 g) 79 [vR 85] [] := by
    intro h2 g i a b hfr g1 s1 s2 g2 g3 hi g4 g5 hL he
    have hTg := hTT h2 g hfr g1
    have k02 := hTg.1
    unfold rdC at he
    generalize hQ : ruQ h f (rdRule t n) = QQ at d103 f103 ⊢
    refine z_run1 tsX5_readAsRule [] 30 ?_
    simp (maxSteps := 1000000) -implicitDefEqProofs +contextual (disch := omega) only [z_wp_t, z_wp_u, ↓pI_e, ↓pL_e, ↓pO_e, ↓pR_e, ↓p1_I, ↓p1_O, z_gl, z_st1, z_st2, z_nl_I, z_nl_O, z_nl_J, z_nl_L, if_true, if_false, ite_true, ite_false, true_and, and_true, List.mem_cons, List.not_mem_nil, or_false, false_or, or_self, List.length_cons, List.length_nil, InR_t, InL_t, z_ix_t, mI_s1, mI_s2, ↓brT, ↓brF, ↓brT', ↓brF', mL_sI, mR_sI, mK_sI, mS_sI, mI_sL, mL_s1, mL_s2, mR_sL, mK_sL, mS_sL, mI_sR, mL_sR, mR_s1, mR_s2, mK_sR, mS_sR, mA_s1, mA_s2, mL_sA, mR_sA, mK_sA, mS_sA, ix_n, ix_a, ix_m, ix_s, z_sw, z_stop, forall_const, true_implies, false_implies, imp_self, implies_true, not_true_eq_false, not_false_eq_true, ne_eq, eq_self, Option.some.injEq, reduceCtorEq, Nat.reduceAdd, Nat.reduceSub, Nat.reduceMul, Nat.reduceEqDiff, Nat.reduceLT, Nat.reduceLeDiff, Int.reduceAdd, Int.reduceMul, Int.reduceSub, Int.reduceNeg, Int.reduceToNat, Int.reduceLT, Int.reduceLE, Int.reduceEq, ↓reduceIte, List.reverse_cons, Option.toList, List.cons_append, List.nil_append, vI_inj, vL_inj, vO_inj, rI, rL, rO, rV, mI_sQ, mL_sQ, mK_sQ, mS_sQ, mQ_s1, mQ_s2, tlX5_readAsRule, tkX5_readAsRule, o_aload, o_getI, o_getR, o_goto, o_iadd, o_ic, o_iceq, o_ifeq, o_ifne, o_iret, o_putI, o_putZ, k02]
    try simp +contextual (disch := omega) only [impF, impT, and_true, true_and, implies_true, not_false_eq_true, not_true_eq_false]
    refine x_callV (by decide +kernel) cv_X5_52 (sp_take l G h2 g t n i 58 hTg g2 hi g3 (by omega) 2 (by omega)) k02 (by omega) rfl (by omega) (by omega) rfl (Nat.le_of_ble_eq_true rfl) ?_
    intro r h' hq
    by_cases hc : ck t n i = 58
    · rw [if_pos hc] at hq he
      obtain ⟨rfl, rfl⟩ := hq
      have hin := ck_lt (t := t) (n := n) (i := i) (by omega)
      have hsk := sk_le t (n := n) (i := i + 1) (by omega)
      generalize hg0 : up g 2 ((sk t n (i + 1) : Nat) : Int) = g0
      have z1 : g0 1 = f 1 := by rw [← hg0, up_n _ _ (by decide)]; exact g1
      have z2 : g0 2 = ((sk t n (i + 1) : Nat) : Int) := by rw [← hg0, up_s]
      have z3 : g0 3 = 0 := by rw [← hg0, up_n _ _ (by decide)]; exact g3
      have z4 : g0 4 = a.1 := by rw [← hg0, up_n _ _ (by decide)]; exact g4
      have z5 : g0 5 = b.1 := by rw [← hg0, up_n _ _ (by decide)]; exact g5
      refine z_run1 tsX5_readAsRule [] 30 ?_
      simp (maxSteps := 1000000) -implicitDefEqProofs +contextual (disch := omega) only [z_wp_t, z_wp_u, ↓pI_e, ↓pL_e, ↓pO_e, ↓pR_e, ↓p1_I, ↓p1_O, z_gl, z_st1, z_st2, z_nl_I, z_nl_O, z_nl_J, z_nl_L, if_true, if_false, ite_true, ite_false, true_and, and_true, List.mem_cons, List.not_mem_nil, or_false, false_or, or_self, List.length_cons, List.length_nil, InR_t, InL_t, z_ix_t, mI_s1, mI_s2, ↓brT, ↓brF, ↓brT', ↓brF', mL_sI, mR_sI, mK_sI, mS_sI, mI_sL, mL_s1, mL_s2, mR_sL, mK_sL, mS_sL, mI_sR, mL_sR, mR_s1, mR_s2, mK_sR, mS_sR, mA_s1, mA_s2, mL_sA, mR_sA, mK_sA, mS_sA, ix_n, ix_a, ix_m, ix_s, z_sw, z_stop, forall_const, true_implies, false_implies, imp_self, implies_true, not_true_eq_false, not_false_eq_true, ne_eq, eq_self, Option.some.injEq, reduceCtorEq, Nat.reduceAdd, Nat.reduceSub, Nat.reduceMul, Nat.reduceEqDiff, Nat.reduceLT, Nat.reduceLeDiff, Int.reduceAdd, Int.reduceMul, Int.reduceSub, Int.reduceNeg, Int.reduceToNat, Int.reduceLT, Int.reduceLE, Int.reduceEq, ↓reduceIte, List.reverse_cons, Option.toList, List.cons_append, List.nil_append, vI_inj, vL_inj, vO_inj, rI, rL, rO, rV, mI_sQ, mL_sQ, mK_sQ, mS_sQ, mQ_s1, mQ_s2, tlX5_readAsRule, tkX5_readAsRule, o_aload, o_getI, o_getR, o_goto, o_iadd, o_ic, o_iceq, o_ifeq, o_ifne, o_iret, o_putI, o_putZ, k02]
      try simp +contextual (disch := omega) only [impF, impT, and_true, true_and, implies_true, not_false_eq_true, not_true_eq_false]
      refine x_callV (by decide +kernel) cv_X5_52 (sp_take l G h2 g0 t n (sk t n (i + 1)) 33 (hTT h2 g0 hfr z1) z2 hsk.2 z3 (by omega) 2 (by omega)) k02 (by omega) rfl (by omega) (by omega) rfl (Nat.le_of_ble_eq_true rfl) ?_
      intro r h' hq
      by_cases hx : ck t n (sk t n (i + 1)) = 33
      · rw [if_pos hx] at hq he
        obtain ⟨rfl, rfl⟩ := hq
        have hin2 := ck_lt (t := t) (n := n) (i := sk t n (i + 1)) (by omega)
        have hsk2 := sk_le t (n := n) (i := sk t n (i + 1) + 1) (by omega)
        have hnx := d103 h2 (up (up g0 2 ((sk t n (sk t n (i + 1) + 1) : Nat) : Int)) 7 1) (sk t n (sk t n (i + 1) + 1)) 1 a b hfr (by rw [up_n _ _ (by decide), up_n _ _ (by decide)]; exact z1) s1 s2 (by rw [up_n _ _ (by decide), up_s]) (by rw [up_n _ _ (by decide), up_n _ _ (by decide)]; exact z3) hsk2.2 (by rw [up_n _ _ (by decide), up_n _ _ (by decide)]; exact z4) (by rw [up_n _ _ (by decide), up_n _ _ (by decide)]; exact z5) hL (by rw [up_s]) he
        refine z_run1 tsX5_readAsRule [103] 30 ?_
        simp (maxSteps := 1000000) -implicitDefEqProofs +contextual (disch := omega) only [z_wp_t, z_wp_u, ↓pI_e, ↓pL_e, ↓pO_e, ↓pR_e, ↓p1_I, ↓p1_O, z_gl, z_st1, z_st2, z_nl_I, z_nl_O, z_nl_J, z_nl_L, if_true, if_false, ite_true, ite_false, true_and, and_true, List.mem_cons, List.not_mem_nil, or_false, false_or, or_self, List.length_cons, List.length_nil, InR_t, InL_t, z_ix_t, mI_s1, mI_s2, ↓brT, ↓brF, ↓brT', ↓brF', mL_sI, mR_sI, mK_sI, mS_sI, mI_sL, mL_s1, mL_s2, mR_sL, mK_sL, mS_sL, mI_sR, mL_sR, mR_s1, mR_s2, mK_sR, mS_sR, mA_s1, mA_s2, mL_sA, mR_sA, mK_sA, mS_sA, ix_n, ix_a, ix_m, ix_s, z_sw, z_stop, forall_const, true_implies, false_implies, imp_self, implies_true, not_true_eq_false, not_false_eq_true, ne_eq, eq_self, Option.some.injEq, reduceCtorEq, Nat.reduceAdd, Nat.reduceSub, Nat.reduceMul, Nat.reduceEqDiff, Nat.reduceLT, Nat.reduceLeDiff, Int.reduceAdd, Int.reduceMul, Int.reduceSub, Int.reduceNeg, Int.reduceToNat, Int.reduceLT, Int.reduceLE, Int.reduceEq, ↓reduceIte, List.reverse_cons, Option.toList, List.cons_append, List.nil_append, vI_inj, vL_inj, vO_inj, rI, rL, rO, rV, mI_sQ, mL_sQ, mK_sQ, mS_sQ, mQ_s1, mQ_s2, tlX5_readAsRule, tkX5_readAsRule, o_aload, o_getI, o_getR, o_goto, o_iadd, o_ic, o_iceq, o_ifeq, o_ifne, o_iret, o_putI, o_putZ, k02, sI_sA]
        try simp +contextual (disch := omega) only [impF, impT, and_true, true_and, implies_true, not_false_eq_true, not_true_eq_false]
        exact hnx
      · rw [if_neg hx] at hq he
        obtain ⟨rfl, rfl⟩ := hq
        have hnx := d103 h2 (up g0 7 0) (sk t n (i + 1)) 0 a b hfr (by rw [up_n _ _ (by decide)]; exact z1) s1 s2 (by rw [up_n _ _ (by decide)]; exact z2) (by rw [up_n _ _ (by decide)]; exact z3) hsk.2 (by rw [up_n _ _ (by decide)]; exact z4) (by rw [up_n _ _ (by decide)]; exact z5) hL (by rw [up_s]) he
        refine z_run1 tsX5_readAsRule [103] 30 ?_
        simp (maxSteps := 1000000) -implicitDefEqProofs +contextual (disch := omega) only [z_wp_t, z_wp_u, ↓pI_e, ↓pL_e, ↓pO_e, ↓pR_e, ↓p1_I, ↓p1_O, z_gl, z_st1, z_st2, z_nl_I, z_nl_O, z_nl_J, z_nl_L, if_true, if_false, ite_true, ite_false, true_and, and_true, List.mem_cons, List.not_mem_nil, or_false, false_or, or_self, List.length_cons, List.length_nil, InR_t, InL_t, z_ix_t, mI_s1, mI_s2, ↓brT, ↓brF, ↓brT', ↓brF', mL_sI, mR_sI, mK_sI, mS_sI, mI_sL, mL_s1, mL_s2, mR_sL, mK_sL, mS_sL, mI_sR, mL_sR, mR_s1, mR_s2, mK_sR, mS_sR, mA_s1, mA_s2, mL_sA, mR_sA, mK_sA, mS_sA, ix_n, ix_a, ix_m, ix_s, z_sw, z_stop, forall_const, true_implies, false_implies, imp_self, implies_true, not_true_eq_false, not_false_eq_true, ne_eq, eq_self, Option.some.injEq, reduceCtorEq, Nat.reduceAdd, Nat.reduceSub, Nat.reduceMul, Nat.reduceEqDiff, Nat.reduceLT, Nat.reduceLeDiff, Int.reduceAdd, Int.reduceMul, Int.reduceSub, Int.reduceNeg, Int.reduceToNat, Int.reduceLT, Int.reduceLE, Int.reduceEq, ↓reduceIte, List.reverse_cons, Option.toList, List.cons_append, List.nil_append, vI_inj, vL_inj, vO_inj, rI, rL, rO, rV, mI_sQ, mL_sQ, mK_sQ, mS_sQ, mQ_s1, mQ_s2, tlX5_readAsRule, tkX5_readAsRule, o_aload, o_getI, o_getR, o_goto, o_iadd, o_ic, o_iceq, o_ifeq, o_ifne, o_iret, o_putI, o_putZ, k02, sI_sA]
        try simp +contextual (disch := omega) only [impF, impT, and_true, true_and, implies_true, not_false_eq_true, not_true_eq_false]
        exact hnx
    · rw [if_neg hc] at hq he
      obtain ⟨rfl, rfl⟩ := hq
      simp only at he
      have hTg1 := hTT h2 (up g 3 1) hfr (by rw [up_n _ _ (by decide)]; exact g1)
      have hnx := f103 h2 (up (up g 3 1) 7 0) i hfr (by rw [up_n _ _ (by decide), up_n _ _ (by decide)]; exact g1) s1 s2 (by rw [up_n _ _ (by decide), up_n _ _ (by decide)]; exact g2) (by rw [up_n _ _ (by decide), up_s]) hi he
      refine z_run1 tsX5_readAsRule [] 30 ?_
      simp (maxSteps := 1000000) -implicitDefEqProofs +contextual (disch := omega) only [z_wp_t, z_wp_u, ↓pI_e, ↓pL_e, ↓pO_e, ↓pR_e, ↓p1_I, ↓p1_O, z_gl, z_st1, z_st2, z_nl_I, z_nl_O, z_nl_J, z_nl_L, if_true, if_false, ite_true, ite_false, true_and, and_true, List.mem_cons, List.not_mem_nil, or_false, false_or, or_self, List.length_cons, List.length_nil, InR_t, InL_t, z_ix_t, mI_s1, mI_s2, ↓brT, ↓brF, ↓brT', ↓brF', mL_sI, mR_sI, mK_sI, mS_sI, mI_sL, mL_s1, mL_s2, mR_sL, mK_sL, mS_sL, mI_sR, mL_sR, mR_s1, mR_s2, mK_sR, mS_sR, mA_s1, mA_s2, mL_sA, mR_sA, mK_sA, mS_sA, ix_n, ix_a, ix_m, ix_s, z_sw, z_stop, forall_const, true_implies, false_implies, imp_self, implies_true, not_true_eq_false, not_false_eq_true, ne_eq, eq_self, Option.some.injEq, reduceCtorEq, Nat.reduceAdd, Nat.reduceSub, Nat.reduceMul, Nat.reduceEqDiff, Nat.reduceLT, Nat.reduceLeDiff, Int.reduceAdd, Int.reduceMul, Int.reduceSub, Int.reduceNeg, Int.reduceToNat, Int.reduceLT, Int.reduceLE, Int.reduceEq, ↓reduceIte, List.reverse_cons, Option.toList, List.cons_append, List.nil_append, vI_inj, vL_inj, vO_inj, rI, rL, rO, rV, mI_sQ, mL_sQ, mK_sQ, mS_sQ, mQ_s1, mQ_s2, tlX5_readAsRule, tkX5_readAsRule, o_aload, o_getI, o_getR, o_goto, o_iadd, o_ic, o_iceq, o_ifeq, o_ifne, o_iret, o_putI, o_putZ, k02, sI_sA]
      try simp +contextual (disch := omega) only [impF, impT, and_true, true_and, implies_true, not_false_eq_true, not_true_eq_false]
      refine x_callV (by decide +kernel) cv_X5_52 (sp_take1 l G h2 (up g 3 1) t n 33 hTg1 (up_s _ _ _) 2 (by omega)) k02 (by omega) rfl (by omega) (by omega) rfl (Nat.le_of_ble_eq_true rfl) ?_
      rintro r h' ⟨rfl, rfl⟩
      refine z_run1 tsX5_readAsRule [103] 30 ?_
      simp (maxSteps := 1000000) -implicitDefEqProofs +contextual (disch := omega) only [z_wp_t, z_wp_u, ↓pI_e, ↓pL_e, ↓pO_e, ↓pR_e, ↓p1_I, ↓p1_O, z_gl, z_st1, z_st2, z_nl_I, z_nl_O, z_nl_J, z_nl_L, if_true, if_false, ite_true, ite_false, true_and, and_true, List.mem_cons, List.not_mem_nil, or_false, false_or, or_self, List.length_cons, List.length_nil, InR_t, InL_t, z_ix_t, mI_s1, mI_s2, ↓brT, ↓brF, ↓brT', ↓brF', mL_sI, mR_sI, mK_sI, mS_sI, mI_sL, mL_s1, mL_s2, mR_sL, mK_sL, mS_sL, mI_sR, mL_sR, mR_s1, mR_s2, mK_sR, mS_sR, mA_s1, mA_s2, mL_sA, mR_sA, mK_sA, mS_sA, ix_n, ix_a, ix_m, ix_s, z_sw, z_stop, forall_const, true_implies, false_implies, imp_self, implies_true, not_true_eq_false, not_false_eq_true, ne_eq, eq_self, Option.some.injEq, reduceCtorEq, Nat.reduceAdd, Nat.reduceSub, Nat.reduceMul, Nat.reduceEqDiff, Nat.reduceLT, Nat.reduceLeDiff, Int.reduceAdd, Int.reduceMul, Int.reduceSub, Int.reduceNeg, Int.reduceToNat, Int.reduceLT, Int.reduceLE, Int.reduceEq, ↓reduceIte, List.reverse_cons, Option.toList, List.cons_append, List.nil_append, vI_inj, vL_inj, vO_inj, rI, rL, rO, rV, mI_sQ, mL_sQ, mK_sQ, mS_sQ, mQ_s1, mQ_s2, tlX5_readAsRule, tkX5_readAsRule, o_aload, o_getI, o_getR, o_goto, o_iadd, o_ic, o_iceq, o_ifeq, o_ifne, o_iret, o_putI, o_putZ, k02, sI_sA]
      try simp +contextual (disch := omega) only [impF, impT, and_true, true_and, implies_true, not_false_eq_true, not_true_eq_false]
      exact hnx
  -- the condition
  have b36 : ∀ (g : Nat → Int) (i : Nat) (a : Int × Nat), g 1 = f 1 → g 2 = (i : Int) → g 3 = 0 → i ≤ n → g 4 = a.1 → g 5 = -1 → rdRule t n = (match rdB t n i with | .inl j => .inl j | .inr b => match rdC t n b.2.1 with | .inl j => .inl j | .inr c => .inr (a.1, b.1, b.2.2, c.1, c.2.1, c.2.2)) → z_X l G mtX5_readAsRule lv 0 0 (ruQ h f (rdRule t n)) 0 0 (sA h 85 g) 36 [vR 85] [] := by
    intro g i a g1 g2 g3 hi g4 g5 he
    have hTg0 := hTT h g Fr.rf g1
    have hpr := ck_R hb i
    have hfr : Fr (fun c => 87 ≤ c ∧ c ≤ 92) h (sI h 87 2 0) := Fr.sI _ _ _ _ _ ⟨by omega, by omega⟩
    have hTg := hTT _ g hfr g1
    have hL0 : RgL (sI h 87 2 0) 87 [] := ⟨⟨hS1, by rw [mI_s1]; rfl, by simp, fun i hi => by simp at hi⟩, fun k x hx => by simp at hx⟩
    have hkq : (gK (sA h 85 g) 87).1 = 3 := hS1.1
    have r12 : gR (sI h 87 2 0) 85 6 = some 87 := r1
    have k02 : (gK (sI h 87 2 0) 85).1 = 5 := k0
    generalize hQ : ruQ h f (rdRule t n) = QQ at c79 f79 ⊢
    refine z_run1 tsX5_readAsRule [] 30 ?_
    simp (maxSteps := 1000000) -implicitDefEqProofs +contextual (disch := omega) only [z_wp_t, z_wp_u, ↓pI_e, ↓pL_e, ↓pO_e, ↓pR_e, ↓p1_I, ↓p1_O, z_gl, z_st1, z_st2, z_nl_I, z_nl_O, z_nl_J, z_nl_L, if_true, if_false, ite_true, ite_false, true_and, and_true, List.mem_cons, List.not_mem_nil, or_false, false_or, or_self, List.length_cons, List.length_nil, InR_t, InL_t, z_ix_t, mI_s1, mI_s2, ↓brT, ↓brF, ↓brT', ↓brF', mL_sI, mR_sI, mK_sI, mS_sI, mI_sL, mL_s1, mL_s2, mR_sL, mK_sL, mS_sL, mI_sR, mL_sR, mR_s1, mR_s2, mK_sR, mS_sR, mA_s1, mA_s2, mL_sA, mR_sA, mK_sA, mS_sA, ix_n, ix_a, ix_m, ix_s, z_sw, z_stop, forall_const, true_implies, false_implies, imp_self, implies_true, not_true_eq_false, not_false_eq_true, ne_eq, eq_self, Option.some.injEq, reduceCtorEq, Nat.reduceAdd, Nat.reduceSub, Nat.reduceMul, Nat.reduceEqDiff, Nat.reduceLT, Nat.reduceLeDiff, Int.reduceAdd, Int.reduceMul, Int.reduceSub, Int.reduceNeg, Int.reduceToNat, Int.reduceLT, Int.reduceLE, Int.reduceEq, ↓reduceIte, List.reverse_cons, Option.toList, List.cons_append, List.nil_append, vI_inj, vL_inj, vO_inj, rI, rL, rO, rV, mI_sQ, mL_sQ, mK_sQ, mS_sQ, mQ_s1, mQ_s2, tlX5_readAsRule, tkX5_readAsRule, o_aload, o_getI, o_getR, o_goto, o_iadd, o_ic, o_iceq, o_ifeq, o_ifne, o_iret, o_putI, o_putZ, k0, r1]
    try simp +contextual (disch := omega) only [impF, impT, and_true, true_and, implies_true, not_false_eq_true, not_true_eq_false]
    refine x_callV (by decide +kernel) cv_X5_65 (sp_Rg_empty l G _ 87 hkq 1 (by omega)) hkq (by omega) rfl (by omega) (by omega) rfl (Nat.le_of_ble_eq_true rfl) ?_
    rintro r h' ⟨rfl, rfl⟩
    rw [sI_sA_c _ (by omega)]
    refine z_run1 tsX5_readAsRule [] 30 ?_
    simp (maxSteps := 1000000) -implicitDefEqProofs +contextual (disch := omega) only [z_wp_t, z_wp_u, ↓pI_e, ↓pL_e, ↓pO_e, ↓pR_e, ↓p1_I, ↓p1_O, z_gl, z_st1, z_st2, z_nl_I, z_nl_O, z_nl_J, z_nl_L, if_true, if_false, ite_true, ite_false, true_and, and_true, List.mem_cons, List.not_mem_nil, or_false, false_or, or_self, List.length_cons, List.length_nil, InR_t, InL_t, z_ix_t, mI_s1, mI_s2, ↓brT, ↓brF, ↓brT', ↓brF', mL_sI, mR_sI, mK_sI, mS_sI, mI_sL, mL_s1, mL_s2, mR_sL, mK_sL, mS_sL, mI_sR, mL_sR, mR_s1, mR_s2, mK_sR, mS_sR, mA_s1, mA_s2, mL_sA, mR_sA, mK_sA, mS_sA, ix_n, ix_a, ix_m, ix_s, z_sw, z_stop, forall_const, true_implies, false_implies, imp_self, implies_true, not_true_eq_false, not_false_eq_true, ne_eq, eq_self, Option.some.injEq, reduceCtorEq, Nat.reduceAdd, Nat.reduceSub, Nat.reduceMul, Nat.reduceEqDiff, Nat.reduceLT, Nat.reduceLeDiff, Int.reduceAdd, Int.reduceMul, Int.reduceSub, Int.reduceNeg, Int.reduceToNat, Int.reduceLT, Int.reduceLE, Int.reduceEq, ↓reduceIte, List.reverse_cons, Option.toList, List.cons_append, List.nil_append, vI_inj, vL_inj, vO_inj, rI, rL, rO, rV, mI_sQ, mL_sQ, mK_sQ, mS_sQ, mQ_s1, mQ_s2, tlX5_readAsRule, tkX5_readAsRule, o_aload, o_getI, o_getR, o_goto, o_iadd, o_ic, o_iceq, o_ifeq, o_ifne, o_iret, o_putI, o_putZ, k0, g3]
    try simp +contextual (disch := omega) only [impF, impT, and_true, true_and, implies_true, not_false_eq_true, not_true_eq_false]
    refine x_callV (by decide +kernel) cv_X5_68 (sp_peek l G (sI h 87 2 0) g t n i hTg g2 (by omega) 1 (by omega)) k02 (by omega) rfl (by omega) (by omega) rfl (Nat.le_of_ble_eq_true rfl) ?_
    rintro r h' ⟨rfl, rfl⟩
    unfold rdB at he
    by_cases hc : ck t n i = 58
    · rw [if_pos hc] at he
      have hnx := c79 (sI h 87 2 0) g i a (-1, i, []) hfr g1 hS1 hS2 g2 g3 hi g4 g5 hL0 he
      refine z_run1 tsX5_readAsRule [79] 30 ?_
      simp (maxSteps := 1000000) -implicitDefEqProofs +contextual (disch := omega) only [z_wp_t, z_wp_u, ↓pI_e, ↓pL_e, ↓pO_e, ↓pR_e, ↓p1_I, ↓p1_O, z_gl, z_st1, z_st2, z_nl_I, z_nl_O, z_nl_J, z_nl_L, if_true, if_false, ite_true, ite_false, true_and, and_true, List.mem_cons, List.not_mem_nil, or_false, false_or, or_self, List.length_cons, List.length_nil, InR_t, InL_t, z_ix_t, mI_s1, mI_s2, ↓brT, ↓brF, ↓brT', ↓brF', mL_sI, mR_sI, mK_sI, mS_sI, mI_sL, mL_s1, mL_s2, mR_sL, mK_sL, mS_sL, mI_sR, mL_sR, mR_s1, mR_s2, mK_sR, mS_sR, mA_s1, mA_s2, mL_sA, mR_sA, mK_sA, mS_sA, ix_n, ix_a, ix_m, ix_s, z_sw, z_stop, forall_const, true_implies, false_implies, imp_self, implies_true, not_true_eq_false, not_false_eq_true, ne_eq, eq_self, Option.some.injEq, reduceCtorEq, Nat.reduceAdd, Nat.reduceSub, Nat.reduceMul, Nat.reduceEqDiff, Nat.reduceLT, Nat.reduceLeDiff, Int.reduceAdd, Int.reduceMul, Int.reduceSub, Int.reduceNeg, Int.reduceToNat, Int.reduceLT, Int.reduceLE, Int.reduceEq, ↓reduceIte, List.reverse_cons, Option.toList, List.cons_append, List.nil_append, vI_inj, vL_inj, vO_inj, rI, rL, rO, rV, mI_sQ, mL_sQ, mK_sQ, mS_sQ, mQ_s1, mQ_s2, tlX5_readAsRule, tkX5_readAsRule, o_aload, o_getI, o_getR, o_goto, o_iadd, o_ic, o_iceq, o_ifeq, o_ifne, o_iret, o_putI, o_putZ, k0]
      try simp +contextual (disch := omega) only [impF, impT, and_true, true_and, implies_true, not_false_eq_true, not_true_eq_false]
      exact hnx
    · rw [if_neg hc] at he
      refine z_run1 tsX5_readAsRule [79] 30 ?_
      simp (maxSteps := 1000000) -implicitDefEqProofs +contextual (disch := omega) only [z_wp_t, z_wp_u, ↓pI_e, ↓pL_e, ↓pO_e, ↓pR_e, ↓p1_I, ↓p1_O, z_gl, z_st1, z_st2, z_nl_I, z_nl_O, z_nl_J, z_nl_L, if_true, if_false, ite_true, ite_false, true_and, and_true, List.mem_cons, List.not_mem_nil, or_false, false_or, or_self, List.length_cons, List.length_nil, InR_t, InL_t, z_ix_t, mI_s1, mI_s2, ↓brT, ↓brF, ↓brT', ↓brF', mL_sI, mR_sI, mK_sI, mS_sI, mI_sL, mL_s1, mL_s2, mR_sL, mK_sL, mS_sL, mI_sR, mL_sR, mR_s1, mR_s2, mK_sR, mS_sR, mA_s1, mA_s2, mL_sA, mR_sA, mK_sA, mS_sA, ix_n, ix_a, ix_m, ix_s, z_sw, z_stop, forall_const, true_implies, false_implies, imp_self, implies_true, not_true_eq_false, not_false_eq_true, ne_eq, eq_self, Option.some.injEq, reduceCtorEq, Nat.reduceAdd, Nat.reduceSub, Nat.reduceMul, Nat.reduceEqDiff, Nat.reduceLT, Nat.reduceLeDiff, Int.reduceAdd, Int.reduceMul, Int.reduceSub, Int.reduceNeg, Int.reduceToNat, Int.reduceLT, Int.reduceLE, Int.reduceEq, ↓reduceIte, List.reverse_cons, Option.toList, List.cons_append, List.nil_append, vI_inj, vL_inj, vO_inj, rI, rL, rO, rV, mI_sQ, mL_sQ, mK_sQ, mS_sQ, mQ_s1, mQ_s2, tlX5_readAsRule, tkX5_readAsRule, o_aload, o_getI, o_getR, o_goto, o_iadd, o_ic, o_iceq, o_ifeq, o_ifne, o_iret, o_putI, o_putZ, k0]
      try simp +contextual (disch := omega) only [impF, impT, and_true, true_and, implies_true, not_false_eq_true, not_true_eq_false]
      refine x_callV (by decide +kernel) cv_X5_55 (sp_parseBetween l G (sI h 87 2 0) g t n i 97 104 hTg g2 hi g3 (by omega) (by omega) 2 (by omega)) k02 (by omega) rfl (by omega) (by omega) rfl (Nat.le_of_ble_eq_true rfl) ?_
      intro r h' hq
      by_cases hp : 97 ≤ ck t n i ∧ ck t n i ≤ 104
      · rw [if_pos hp] at hq he
        obtain ⟨rfl, rfl⟩ := hq
        have hin := ck_lt (t := t) (n := n) (i := i) (by omega)
        have hsk := sk_le t (n := n) (i := i + 1) (by omega)
        have hro := pRg_ok (t := t) (n := n) 20 (sk t n (i + 1)) [] hsk.2
        generalize hg0 : up (up g 2 ((sk t n (i + 1) : Nat) : Int)) 5 (ck t n i - 97) = g0
        have z1 : g0 1 = f 1 := by rw [← hg0, up_n _ _ (by decide), up_n _ _ (by decide)]; exact g1
        have z2 : g0 2 = ((sk t n (i + 1) : Nat) : Int) := by rw [← hg0, up_n _ _ (by decide), up_s]
        have z3 : g0 3 = 0 := by rw [← hg0, up_n _ _ (by decide), up_n _ _ (by decide)]; exact g3
        have z4 : g0 4 = a.1 := by rw [← hg0, up_n _ _ (by decide), up_n _ _ (by decide)]; exact g4
        have z5 : g0 5 = ck t n i - 97 := by rw [← hg0, up_s]
        refine z_run1 tsX5_readAsRule [79] 30 ?_
        simp (maxSteps := 1000000) -implicitDefEqProofs +contextual (disch := omega) only [z_wp_t, z_wp_u, ↓pI_e, ↓pL_e, ↓pO_e, ↓pR_e, ↓p1_I, ↓p1_O, z_gl, z_st1, z_st2, z_nl_I, z_nl_O, z_nl_J, z_nl_L, if_true, if_false, ite_true, ite_false, true_and, and_true, List.mem_cons, List.not_mem_nil, or_false, false_or, or_self, List.length_cons, List.length_nil, InR_t, InL_t, z_ix_t, mI_s1, mI_s2, ↓brT, ↓brF, ↓brT', ↓brF', mL_sI, mR_sI, mK_sI, mS_sI, mI_sL, mL_s1, mL_s2, mR_sL, mK_sL, mS_sL, mI_sR, mL_sR, mR_s1, mR_s2, mK_sR, mS_sR, mA_s1, mA_s2, mL_sA, mR_sA, mK_sA, mS_sA, ix_n, ix_a, ix_m, ix_s, z_sw, z_stop, forall_const, true_implies, false_implies, imp_self, implies_true, not_true_eq_false, not_false_eq_true, ne_eq, eq_self, Option.some.injEq, reduceCtorEq, Nat.reduceAdd, Nat.reduceSub, Nat.reduceMul, Nat.reduceEqDiff, Nat.reduceLT, Nat.reduceLeDiff, Int.reduceAdd, Int.reduceMul, Int.reduceSub, Int.reduceNeg, Int.reduceToNat, Int.reduceLT, Int.reduceLE, Int.reduceEq, ↓reduceIte, List.reverse_cons, Option.toList, List.cons_append, List.nil_append, vI_inj, vL_inj, vO_inj, rI, rL, rO, rV, mI_sQ, mL_sQ, mK_sQ, mS_sQ, mQ_s1, mQ_s2, tlX5_readAsRule, tkX5_readAsRule, o_aload, o_getI, o_getR, o_goto, o_iadd, o_ic, o_iceq, o_ifeq, o_ifne, o_iret, o_putI, o_putZ, k0, r1, sI_sA, hg0]
        try simp +contextual (disch := omega) only [impF, impT, and_true, true_and, implies_true, not_false_eq_true, not_true_eq_false]
        refine x_callV (by decide +kernel) cv_X5_34 (sp_parseRange l G (sI h 87 2 0) g0 t n (sk t n (i + 1)) 87 (hTT _ g0 hfr z1) z2 hsk.2 z3 (Or.inl rfl) hS1 5 (by omega)) k02 (by omega) rfl (by omega) (by omega) rfl (Nat.le_of_ble_eq_true rfl) ?_
        rintro r h' ⟨rfl, h3, g', rfl, hfr', hg6, q2, q3, q4, q5⟩
        generalize hx : pRg t n 20 (sk t n (i + 1)) [] = x at hro he q2 q3 q4
        obtain ⟨ok, j, pl⟩ := x
        simp only at hro he q2 q3 q4
        have hfr3 : Fr (fun c => 87 ≤ c ∧ c ≤ 92) h h3 := hfr.tr' hfr' (fun _ q => q) (fun c q => by omega)
        have w1 : g' 1 = f 1 := (hg6 1 (by decide) (by decide) (by decide) (by decide) (by decide) (by decide)).trans z1
        have w4 : g' 4 = a.1 := (hg6 4 (by decide) (by decide) (by decide) (by decide) (by decide) (by decide)).trans z4
        have w5 : g' 5 = ck t n i - 97 := (hg6 5 (by decide) (by decide) (by decide) (by decide) (by decide) (by decide)).trans z5
        have s2' : RgS h3 90 20 := RgS.fr hfr' (S := fun c => 87 ≤ c ∧ c ≤ 87 + 2) (by omega) hS2
        cases ok
        · simp only [Bool.false_eq_true, if_false] at q3 he
          have hnx := f79 h3 g' j hfr3 w1 q5 s2' q2 q3 hro.2 he
          exact hnx
        · simp only [if_true] at q3 he
          exact c79 h3 g' j a (ck t n i - 97, j, pl) hfr3 w1 q5 s2' q2 q3 hro.2 w4 w5 (q4 rfl) he
      · rw [if_neg hp] at hq he
        obtain ⟨rfl, rfl⟩ := hq
        simp only at he
        generalize hg0 : up (up g 3 1) 5 (-1) = g0
        have z1 : g0 1 = f 1 := by rw [← hg0, up_n _ _ (by decide), up_n _ _ (by decide)]; exact g1
        have z2 : g0 2 = (i : Int) := by rw [← hg0, up_n _ _ (by decide), up_n _ _ (by decide)]; exact g2
        have z3 : g0 3 = 1 := by rw [← hg0, up_n _ _ (by decide), up_s]
        refine z_run1 tsX5_readAsRule [79] 30 ?_
        simp (maxSteps := 1000000) -implicitDefEqProofs +contextual (disch := omega) only [z_wp_t, z_wp_u, ↓pI_e, ↓pL_e, ↓pO_e, ↓pR_e, ↓p1_I, ↓p1_O, z_gl, z_st1, z_st2, z_nl_I, z_nl_O, z_nl_J, z_nl_L, if_true, if_false, ite_true, ite_false, true_and, and_true, List.mem_cons, List.not_mem_nil, or_false, false_or, or_self, List.length_cons, List.length_nil, InR_t, InL_t, z_ix_t, mI_s1, mI_s2, ↓brT, ↓brF, ↓brT', ↓brF', mL_sI, mR_sI, mK_sI, mS_sI, mI_sL, mL_s1, mL_s2, mR_sL, mK_sL, mS_sL, mI_sR, mL_sR, mR_s1, mR_s2, mK_sR, mS_sR, mA_s1, mA_s2, mL_sA, mR_sA, mK_sA, mS_sA, ix_n, ix_a, ix_m, ix_s, z_sw, z_stop, forall_const, true_implies, false_implies, imp_self, implies_true, not_true_eq_false, not_false_eq_true, ne_eq, eq_self, Option.some.injEq, reduceCtorEq, Nat.reduceAdd, Nat.reduceSub, Nat.reduceMul, Nat.reduceEqDiff, Nat.reduceLT, Nat.reduceLeDiff, Int.reduceAdd, Int.reduceMul, Int.reduceSub, Int.reduceNeg, Int.reduceToNat, Int.reduceLT, Int.reduceLE, Int.reduceEq, ↓reduceIte, List.reverse_cons, Option.toList, List.cons_append, List.nil_append, vI_inj, vL_inj, vO_inj, rI, rL, rO, rV, mI_sQ, mL_sQ, mK_sQ, mS_sQ, mQ_s1, mQ_s2, tlX5_readAsRule, tkX5_readAsRule, o_aload, o_getI, o_getR, o_goto, o_iadd, o_ic, o_iceq, o_ifeq, o_ifne, o_iret, o_putI, o_putZ, k0, r1, sI_sA, hg0]
        try simp +contextual (disch := omega) only [impF, impT, and_true, true_and, implies_true, not_false_eq_true, not_true_eq_false]
        refine x_callV (by decide +kernel) cv_X5_34 (sp_parseRange1 l G (sI h 87 2 0) g0 t n 87 (hTT _ g0 hfr z1) z3 (Or.inl rfl) hS1 2 (by omega)) k02 (by omega) rfl (by omega) (by omega) rfl (Nat.le_of_ble_eq_true rfl) ?_
        rintro r h' ⟨rfl, rfl⟩
        have hfr3 : Fr (fun c => 87 ≤ c ∧ c ≤ 92) h (sI (sI h 87 2 0) 87 2 0) := hfr.tr' (Fr.sI (fun c => c = 87) _ _ _ _ rfl) (fun _ q => q) (fun c q => by omega)
        exact f79 _ g0 i hfr3 z1 hS1 hS2 z2 z3 hi he
  have e36 : ∀ (g : Nat → Int) (j : Nat), g 1 = f 1 → g 2 = (j : Int) → g 3 = 1 → j ≤ n → rdRule t n = .inl j → z_X l G mtX5_readAsRule lv 0 0 (ruQ h f (rdRule t n)) 0 0 (sA h 85 g) 36 [vR 85] [] := by
    intro g j g1 g2 g3 hj he
    have hfr : Fr (fun c => 87 ≤ c ∧ c ≤ 92) h (sI h 87 2 0) := Fr.sI _ _ _ _ _ ⟨by omega, by omega⟩
    have hkq : (gK (sA h 85 g) 87).1 = 3 := hS1.1
    have hnx := f79 (sI h 87 2 0) g j hfr g1 hS1 hS2 g2 g3 hj he
    generalize hQ : ruQ h f (rdRule t n) = QQ at hnx ⊢
    refine z_run1 tsX5_readAsRule [] 30 ?_
    simp (maxSteps := 1000000) -implicitDefEqProofs +contextual (disch := omega) only [z_wp_t, z_wp_u, ↓pI_e, ↓pL_e, ↓pO_e, ↓pR_e, ↓p1_I, ↓p1_O, z_gl, z_st1, z_st2, z_nl_I, z_nl_O, z_nl_J, z_nl_L, if_true, if_false, ite_true, ite_false, true_and, and_true, List.mem_cons, List.not_mem_nil, or_false, false_or, or_self, List.length_cons, List.length_nil, InR_t, InL_t, z_ix_t, mI_s1, mI_s2, ↓brT, ↓brF, ↓brT', ↓brF', mL_sI, mR_sI, mK_sI, mS_sI, mI_sL, mL_s1, mL_s2, mR_sL, mK_sL, mS_sL, mI_sR, mL_sR, mR_s1, mR_s2, mK_sR, mS_sR, mA_s1, mA_s2, mL_sA, mR_sA, mK_sA, mS_sA, ix_n, ix_a, ix_m, ix_s, z_sw, z_stop, forall_const, true_implies, false_implies, imp_self, implies_true, not_true_eq_false, not_false_eq_true, ne_eq, eq_self, Option.some.injEq, reduceCtorEq, Nat.reduceAdd, Nat.reduceSub, Nat.reduceMul, Nat.reduceEqDiff, Nat.reduceLT, Nat.reduceLeDiff, Int.reduceAdd, Int.reduceMul, Int.reduceSub, Int.reduceNeg, Int.reduceToNat, Int.reduceLT, Int.reduceLE, Int.reduceEq, ↓reduceIte, List.reverse_cons, Option.toList, List.cons_append, List.nil_append, vI_inj, vL_inj, vO_inj, rI, rL, rO, rV, mI_sQ, mL_sQ, mK_sQ, mS_sQ, mQ_s1, mQ_s2, tlX5_readAsRule, tkX5_readAsRule, o_aload, o_getI, o_getR, o_goto, o_iadd, o_ic, o_iceq, o_ifeq, o_ifne, o_iret, o_putI, o_putZ, k0, r1]
    try simp +contextual (disch := omega) only [impF, impT, and_true, true_and, implies_true, not_false_eq_true, not_true_eq_false]
    refine x_callV (by decide +kernel) cv_X5_65 (sp_Rg_empty l G _ 87 hkq 1 (by omega)) hkq (by omega) rfl (by omega) (by omega) rfl (Nat.le_of_ble_eq_true rfl) ?_
    rintro r h' ⟨rfl, rfl⟩
    rw [sI_sA_c _ (by omega)]
    refine z_run1 tsX5_readAsRule [79] 30 ?_
    simp (maxSteps := 1000000) -implicitDefEqProofs +contextual (disch := omega) only [z_wp_t, z_wp_u, ↓pI_e, ↓pL_e, ↓pO_e, ↓pR_e, ↓p1_I, ↓p1_O, z_gl, z_st1, z_st2, z_nl_I, z_nl_O, z_nl_J, z_nl_L, if_true, if_false, ite_true, ite_false, true_and, and_true, List.mem_cons, List.not_mem_nil, or_false, false_or, or_self, List.length_cons, List.length_nil, InR_t, InL_t, z_ix_t, mI_s1, mI_s2, ↓brT, ↓brF, ↓brT', ↓brF', mL_sI, mR_sI, mK_sI, mS_sI, mI_sL, mL_s1, mL_s2, mR_sL, mK_sL, mS_sL, mI_sR, mL_sR, mR_s1, mR_s2, mK_sR, mS_sR, mA_s1, mA_s2, mL_sA, mR_sA, mK_sA, mS_sA, ix_n, ix_a, ix_m, ix_s, z_sw, z_stop, forall_const, true_implies, false_implies, imp_self, implies_true, not_true_eq_false, not_false_eq_true, ne_eq, eq_self, Option.some.injEq, reduceCtorEq, Nat.reduceAdd, Nat.reduceSub, Nat.reduceMul, Nat.reduceEqDiff, Nat.reduceLT, Nat.reduceLeDiff, Int.reduceAdd, Int.reduceMul, Int.reduceSub, Int.reduceNeg, Int.reduceToNat, Int.reduceLT, Int.reduceLE, Int.reduceEq, ↓reduceIte, List.reverse_cons, Option.toList, List.cons_append, List.nil_append, vI_inj, vL_inj, vO_inj, rI, rL, rO, rV, mI_sQ, mL_sQ, mK_sQ, mS_sQ, mQ_s1, mQ_s2, tlX5_readAsRule, tkX5_readAsRule, o_aload, o_getI, o_getR, o_goto, o_iadd, o_ic, o_iceq, o_ifeq, o_ifne, o_iret, o_putI, o_putZ, k0, g3]
    try simp +contextual (disch := omega) only [impF, impT, and_true, true_and, implies_true, not_false_eq_true, not_true_eq_false]
    exact hnx
  have hA0 : rdRule t n = (match rdA t n with | .inl j => .inl j | .inr a => match rdB t n a.2 with | .inl j => .inl j | .inr b => match rdC t n b.2.1 with | .inl j => .inl j | .inr c => .inr (a.1, b.1, b.2.2, c.1, c.2.1, c.2.2)) := rfl
  unfold rdA at hA0
  refine x_enter [vR 85] (by decide +kernel) (by omega) rfl (Nat.le_of_ble_eq_true rfl) ?_
  generalize hQ : ruQ h f (rdRule t n) = QQ at b36 e36 ⊢
  refine z_run1 tsX5_readAsRule [] 30 ?_
  simp (maxSteps := 1000000) -implicitDefEqProofs +contextual (disch := omega) only [z_wp_t, z_wp_u, ↓pI_e, ↓pL_e, ↓pO_e, ↓pR_e, ↓p1_I, ↓p1_O, z_gl, z_st1, z_st2, z_nl_I, z_nl_O, z_nl_J, z_nl_L, if_true, if_false, ite_true, ite_false, true_and, and_true, List.mem_cons, List.not_mem_nil, or_false, false_or, or_self, List.length_cons, List.length_nil, InR_t, InL_t, z_ix_t, mI_s1, mI_s2, ↓brT, ↓brF, ↓brT', ↓brF', mL_sI, mR_sI, mK_sI, mS_sI, mI_sL, mL_s1, mL_s2, mR_sL, mK_sL, mS_sL, mI_sR, mL_sR, mR_s1, mR_s2, mK_sR, mS_sR, mA_s1, mA_s2, mL_sA, mR_sA, mK_sA, mS_sA, ix_n, ix_a, ix_m, ix_s, z_sw, z_stop, forall_const, true_implies, false_implies, imp_self, implies_true, not_true_eq_false, not_false_eq_true, ne_eq, eq_self, Option.some.injEq, reduceCtorEq, Nat.reduceAdd, Nat.reduceSub, Nat.reduceMul, Nat.reduceEqDiff, Nat.reduceLT, Nat.reduceLeDiff, Int.reduceAdd, Int.reduceMul, Int.reduceSub, Int.reduceNeg, Int.reduceToNat, Int.reduceLT, Int.reduceLE, Int.reduceEq, ↓reduceIte, List.reverse_cons, Option.toList, List.cons_append, List.nil_append, vI_inj, vL_inj, vO_inj, rI, rL, rO, rV, mI_sQ, mL_sQ, mK_sQ, mS_sQ, mQ_s1, mQ_s2, tlX5_readAsRule, tkX5_readAsRule, o_aload, o_getI, o_getR, o_goto, o_iadd, o_ic, o_iceq, o_ifeq, o_ifne, o_iret, o_putI, o_putZ, k0]
  try simp +contextual (disch := omega) only [impF, impT, and_true, true_and, implies_true, not_false_eq_true, not_true_eq_false]
  refine x_callV (by decide +kernel) cv_X5_31 (sp_start l G h f t n hT0 2 (by omega)) k0 (by omega) rfl (by omega) (by omega) rfl (Nat.le_of_ble_eq_true rfl) ?_
  rintro r h' ⟨rfl, rfl⟩
  generalize hg0 : up (up (up f 2 0) 3 0) 2 ((sk t n 0 : Nat) : Int) = g0
  have z1 : g0 1 = f 1 := by rw [← hg0, up_n _ _ (by decide), up_n _ _ (by decide), up_n _ _ (by decide)]
  have z2 : g0 2 = ((sk t n 0 : Nat) : Int) := by rw [← hg0, up_s]
  have z3 : g0 3 = 0 := by rw [← hg0, up_n _ _ (by decide), up_s]
  refine z_run1 tsX5_readAsRule [] 30 ?_
  simp (maxSteps := 1000000) -implicitDefEqProofs +contextual (disch := omega) only [z_wp_t, z_wp_u, ↓pI_e, ↓pL_e, ↓pO_e, ↓pR_e, ↓p1_I, ↓p1_O, z_gl, z_st1, z_st2, z_nl_I, z_nl_O, z_nl_J, z_nl_L, if_true, if_false, ite_true, ite_false, true_and, and_true, List.mem_cons, List.not_mem_nil, or_false, false_or, or_self, List.length_cons, List.length_nil, InR_t, InL_t, z_ix_t, mI_s1, mI_s2, ↓brT, ↓brF, ↓brT', ↓brF', mL_sI, mR_sI, mK_sI, mS_sI, mI_sL, mL_s1, mL_s2, mR_sL, mK_sL, mS_sL, mI_sR, mL_sR, mR_s1, mR_s2, mK_sR, mS_sR, mA_s1, mA_s2, mL_sA, mR_sA, mK_sA, mS_sA, ix_n, ix_a, ix_m, ix_s, z_sw, z_stop, forall_const, true_implies, false_implies, imp_self, implies_true, not_true_eq_false, not_false_eq_true, ne_eq, eq_self, Option.some.injEq, reduceCtorEq, Nat.reduceAdd, Nat.reduceSub, Nat.reduceMul, Nat.reduceEqDiff, Nat.reduceLT, Nat.reduceLeDiff, Int.reduceAdd, Int.reduceMul, Int.reduceSub, Int.reduceNeg, Int.reduceToNat, Int.reduceLT, Int.reduceLE, Int.reduceEq, ↓reduceIte, List.reverse_cons, Option.toList, List.cons_append, List.nil_append, vI_inj, vL_inj, vO_inj, rI, rL, rO, rV, mI_sQ, mL_sQ, mK_sQ, mS_sQ, mQ_s1, mQ_s2, tlX5_readAsRule, tkX5_readAsRule, o_aload, o_getI, o_getR, o_goto, o_iadd, o_ic, o_iceq, o_ifeq, o_ifne, o_iret, o_putI, o_putZ, k0]
  try simp +contextual (disch := omega) only [impF, impT, and_true, true_and, implies_true, not_false_eq_true, not_true_eq_false]
  refine x_callV (by decide +kernel) cv_X5_52 (sp_take l G h g0 t n (sk t n 0) 35 (hT0.up z1) z2 hs0.2 z3 (by omega) 2 (by omega)) k0 (by omega) rfl (by omega) (by omega) rfl (Nat.le_of_ble_eq_true rfl) ?_
  intro r h' hq
  by_cases h35 : ck t n (sk t n 0) = 35
  · rw [if_pos h35] at hq hA0
    obtain ⟨rfl, rfl⟩ := hq
    have hin := ck_lt (t := t) (n := n) (i := sk t n 0) (by omega)
    have hsk := sk_le t (n := n) (i := sk t n 0 + 1) (by omega)
    generalize hg1 : up g0 2 ((sk t n (sk t n 0 + 1) : Nat) : Int) = g1
    have y1 : g1 1 = f 1 := by rw [← hg1, up_n _ _ (by decide)]; exact z1
    have y2 : g1 2 = ((sk t n (sk t n 0 + 1) : Nat) : Int) := by rw [← hg1, up_s]
    have y3 : g1 3 = 0 := by rw [← hg1, up_n _ _ (by decide)]; exact z3
    generalize hi1 : sk t n (sk t n 0 + 1) = i1 at hsk hA0 y2
    refine z_run1 tsX5_readAsRule [] 30 ?_
    simp (maxSteps := 1000000) -implicitDefEqProofs +contextual (disch := omega) only [z_wp_t, z_wp_u, ↓pI_e, ↓pL_e, ↓pO_e, ↓pR_e, ↓p1_I, ↓p1_O, z_gl, z_st1, z_st2, z_nl_I, z_nl_O, z_nl_J, z_nl_L, if_true, if_false, ite_true, ite_false, true_and, and_true, List.mem_cons, List.not_mem_nil, or_false, false_or, or_self, List.length_cons, List.length_nil, InR_t, InL_t, z_ix_t, mI_s1, mI_s2, ↓brT, ↓brF, ↓brT', ↓brF', mL_sI, mR_sI, mK_sI, mS_sI, mI_sL, mL_s1, mL_s2, mR_sL, mK_sL, mS_sL, mI_sR, mL_sR, mR_s1, mR_s2, mK_sR, mS_sR, mA_s1, mA_s2, mL_sA, mR_sA, mK_sA, mS_sA, ix_n, ix_a, ix_m, ix_s, z_sw, z_stop, forall_const, true_implies, false_implies, imp_self, implies_true, not_true_eq_false, not_false_eq_true, ne_eq, eq_self, Option.some.injEq, reduceCtorEq, Nat.reduceAdd, Nat.reduceSub, Nat.reduceMul, Nat.reduceEqDiff, Nat.reduceLT, Nat.reduceLeDiff, Int.reduceAdd, Int.reduceMul, Int.reduceSub, Int.reduceNeg, Int.reduceToNat, Int.reduceLT, Int.reduceLE, Int.reduceEq, ↓reduceIte, List.reverse_cons, Option.toList, List.cons_append, List.nil_append, vI_inj, vL_inj, vO_inj, rI, rL, rO, rV, mI_sQ, mL_sQ, mK_sQ, mS_sQ, mQ_s1, mQ_s2, tlX5_readAsRule, tkX5_readAsRule, o_aload, o_getI, o_getR, o_goto, o_iadd, o_ic, o_iceq, o_ifeq, o_ifne, o_iret, o_putI, o_putZ, k0]
    try simp +contextual (disch := omega) only [impF, impT, and_true, true_and, implies_true, not_false_eq_true, not_true_eq_false]
    refine x_callV (by decide +kernel) cv_X5_55 (sp_parseBetween l G h g1 t n i1 49 52 (hT0.up y1) y2 hsk.2 y3 (by omega) (by omega) 2 (by omega)) k0 (by omega) rfl (by omega) (by omega) rfl (Nat.le_of_ble_eq_true rfl) ?_
    intro r h' hq
    by_cases hp : 49 ≤ ck t n i1 ∧ ck t n i1 ≤ 52
    · rw [if_pos hp] at hq hA0
      obtain ⟨rfl, rfl⟩ := hq
      have hin2 := ck_lt (t := t) (n := n) (i := i1) (by omega)
      have hsk2 := sk_le t (n := n) (i := i1 + 1) (by omega)
      have hnx := b36 (up (up (up g1 2 ((sk t n (i1 + 1) : Nat) : Int)) 4 (ck t n i1 - 49 + 1)) 5 (-1)) (sk t n (i1 + 1)) (ck t n i1 - 49 + 1, sk t n (i1 + 1)) (by rw [up_n _ _ (by decide), up_n _ _ (by decide), up_n _ _ (by decide)]; exact y1) (by rw [up_n _ _ (by decide), up_n _ _ (by decide), up_s]) (by rw [up_n _ _ (by decide), up_n _ _ (by decide), up_n _ _ (by decide)]; exact y3) hsk2.2 (by rw [up_n _ _ (by decide), up_s]) (by rw [up_s]) hA0
      refine z_run1 tsX5_readAsRule [36] 30 ?_
      simp (maxSteps := 1000000) -implicitDefEqProofs +contextual (disch := omega) only [z_wp_t, z_wp_u, ↓pI_e, ↓pL_e, ↓pO_e, ↓pR_e, ↓p1_I, ↓p1_O, z_gl, z_st1, z_st2, z_nl_I, z_nl_O, z_nl_J, z_nl_L, if_true, if_false, ite_true, ite_false, true_and, and_true, List.mem_cons, List.not_mem_nil, or_false, false_or, or_self, List.length_cons, List.length_nil, InR_t, InL_t, z_ix_t, mI_s1, mI_s2, ↓brT, ↓brF, ↓brT', ↓brF', mL_sI, mR_sI, mK_sI, mS_sI, mI_sL, mL_s1, mL_s2, mR_sL, mK_sL, mS_sL, mI_sR, mL_sR, mR_s1, mR_s2, mK_sR, mS_sR, mA_s1, mA_s2, mL_sA, mR_sA, mK_sA, mS_sA, ix_n, ix_a, ix_m, ix_s, z_sw, z_stop, forall_const, true_implies, false_implies, imp_self, implies_true, not_true_eq_false, not_false_eq_true, ne_eq, eq_self, Option.some.injEq, reduceCtorEq, Nat.reduceAdd, Nat.reduceSub, Nat.reduceMul, Nat.reduceEqDiff, Nat.reduceLT, Nat.reduceLeDiff, Int.reduceAdd, Int.reduceMul, Int.reduceSub, Int.reduceNeg, Int.reduceToNat, Int.reduceLT, Int.reduceLE, Int.reduceEq, ↓reduceIte, List.reverse_cons, Option.toList, List.cons_append, List.nil_append, vI_inj, vL_inj, vO_inj, rI, rL, rO, rV, mI_sQ, mL_sQ, mK_sQ, mS_sQ, mQ_s1, mQ_s2, tlX5_readAsRule, tkX5_readAsRule, o_aload, o_getI, o_getR, o_goto, o_iadd, o_ic, o_iceq, o_ifeq, o_ifne, o_iret, o_putI, o_putZ, k0, sI_sA]
      try simp +contextual (disch := omega) only [impF, impT, and_true, true_and, implies_true, not_false_eq_true, not_true_eq_false]
      exact hnx
    · rw [if_neg hp] at hq hA0
      obtain ⟨rfl, rfl⟩ := hq
      have hnx := e36 (up (up (up g1 3 1) 4 0) 5 (-1)) i1 (by rw [up_n _ _ (by decide), up_n _ _ (by decide), up_n _ _ (by decide)]; exact y1) (by rw [up_n _ _ (by decide), up_n _ _ (by decide), up_n _ _ (by decide)]; exact y2) (by rw [up_n _ _ (by decide), up_n _ _ (by decide), up_s]) hsk.2 hA0
      refine z_run1 tsX5_readAsRule [36] 30 ?_
      simp (maxSteps := 1000000) -implicitDefEqProofs +contextual (disch := omega) only [z_wp_t, z_wp_u, ↓pI_e, ↓pL_e, ↓pO_e, ↓pR_e, ↓p1_I, ↓p1_O, z_gl, z_st1, z_st2, z_nl_I, z_nl_O, z_nl_J, z_nl_L, if_true, if_false, ite_true, ite_false, true_and, and_true, List.mem_cons, List.not_mem_nil, or_false, false_or, or_self, List.length_cons, List.length_nil, InR_t, InL_t, z_ix_t, mI_s1, mI_s2, ↓brT, ↓brF, ↓brT', ↓brF', mL_sI, mR_sI, mK_sI, mS_sI, mI_sL, mL_s1, mL_s2, mR_sL, mK_sL, mS_sL, mI_sR, mL_sR, mR_s1, mR_s2, mK_sR, mS_sR, mA_s1, mA_s2, mL_sA, mR_sA, mK_sA, mS_sA, ix_n, ix_a, ix_m, ix_s, z_sw, z_stop, forall_const, true_implies, false_implies, imp_self, implies_true, not_true_eq_false, not_false_eq_true, ne_eq, eq_self, Option.some.injEq, reduceCtorEq, Nat.reduceAdd, Nat.reduceSub, Nat.reduceMul, Nat.reduceEqDiff, Nat.reduceLT, Nat.reduceLeDiff, Int.reduceAdd, Int.reduceMul, Int.reduceSub, Int.reduceNeg, Int.reduceToNat, Int.reduceLT, Int.reduceLE, Int.reduceEq, ↓reduceIte, List.reverse_cons, Option.toList, List.cons_append, List.nil_append, vI_inj, vL_inj, vO_inj, rI, rL, rO, rV, mI_sQ, mL_sQ, mK_sQ, mS_sQ, mQ_s1, mQ_s2, tlX5_readAsRule, tkX5_readAsRule, o_aload, o_getI, o_getR, o_goto, o_iadd, o_ic, o_iceq, o_ifeq, o_ifne, o_iret, o_putI, o_putZ, k0, sI_sA]
      try simp +contextual (disch := omega) only [impF, impT, and_true, true_and, implies_true, not_false_eq_true, not_true_eq_false]
      exact hnx
  · rw [if_neg h35] at hq hA0
    obtain ⟨rfl, rfl⟩ := hq
    have hnx := b36 (up (up g0 4 0) 5 (-1)) (sk t n 0) (0, sk t n 0) (by rw [up_n _ _ (by decide), up_n _ _ (by decide)]; exact z1) (by rw [up_n _ _ (by decide), up_n _ _ (by decide)]; exact z2) (by rw [up_n _ _ (by decide), up_n _ _ (by decide)]; exact z3) hs0.2 (by rw [up_n _ _ (by decide), up_s]) (by rw [up_s]) hA0
    refine z_run1 tsX5_readAsRule [36] 30 ?_
    simp (maxSteps := 1000000) -implicitDefEqProofs +contextual (disch := omega) only [z_wp_t, z_wp_u, ↓pI_e, ↓pL_e, ↓pO_e, ↓pR_e, ↓p1_I, ↓p1_O, z_gl, z_st1, z_st2, z_nl_I, z_nl_O, z_nl_J, z_nl_L, if_true, if_false, ite_true, ite_false, true_and, and_true, List.mem_cons, List.not_mem_nil, or_false, false_or, or_self, List.length_cons, List.length_nil, InR_t, InL_t, z_ix_t, mI_s1, mI_s2, ↓brT, ↓brF, ↓brT', ↓brF', mL_sI, mR_sI, mK_sI, mS_sI, mI_sL, mL_s1, mL_s2, mR_sL, mK_sL, mS_sL, mI_sR, mL_sR, mR_s1, mR_s2, mK_sR, mS_sR, mA_s1, mA_s2, mL_sA, mR_sA, mK_sA, mS_sA, ix_n, ix_a, ix_m, ix_s, z_sw, z_stop, forall_const, true_implies, false_implies, imp_self, implies_true, not_true_eq_false, not_false_eq_true, ne_eq, eq_self, Option.some.injEq, reduceCtorEq, Nat.reduceAdd, Nat.reduceSub, Nat.reduceMul, Nat.reduceEqDiff, Nat.reduceLT, Nat.reduceLeDiff, Int.reduceAdd, Int.reduceMul, Int.reduceSub, Int.reduceNeg, Int.reduceToNat, Int.reduceLT, Int.reduceLE, Int.reduceEq, ↓reduceIte, List.reverse_cons, Option.toList, List.cons_append, List.nil_append, vI_inj, vL_inj, vO_inj, rI, rL, rO, rV, mI_sQ, mL_sQ, mK_sQ, mS_sQ, mQ_s1, mQ_s2, tlX5_readAsRule, tkX5_readAsRule, o_aload, o_getI, o_getR, o_goto, o_iadd, o_ic, o_iceq, o_ifeq, o_ifne, o_iret, o_putI, o_putZ, k0, sI_sA]
    try simp +contextual (disch := omega) only [impF, impT, and_true, true_and, implies_true, not_false_eq_true, not_true_eq_false]
    exact hnx
