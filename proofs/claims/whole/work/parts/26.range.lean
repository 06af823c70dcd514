/-! RuleText.parsePart, parseRange -/
def pPl (t : Nat → Int) (n : Nat) : Nat → Bool × Nat × Int × Int → Bool × Nat × Int × Int
  | 0, x => x
  | m + 1, x => if (x.1 && sb (ck t n x.2.1)) = true then pPl t n m ((pBnd t n x.2.1).1, (pBnd t n x.2.1).2.1, (if x.2.2.1 < (pBnd t n x.2.1).2.2.1 then (pBnd t n x.2.1).2.2.1 else x.2.2.1), (if (pBnd t n x.2.1).2.2.2 < x.2.2.2 then (pBnd t n x.2.1).2.2.2 else x.2.2.2)) else x
def pPart (t : Nat → Int) (n i : Nat) : Bool × Nat × Int × Int := pPl t n 40 ((pBnd t n i).1, (pBnd t n i).2.1, (if 0 < (pBnd t n i).2.2.1 then (pBnd t n i).2.2.1 else 0), (if (pBnd t n i).2.2.2 < 999 then (pBnd t n i).2.2.2 else 999))
theorem pBnd_ok {t : Nat → Int} {n i : Nat} (hi : i ≤ n) : i ≤ (pBnd t n i).2.1 ∧ (pBnd t n i).2.1 ≤ n ∧ ((pBnd t n i).1 = true → i < (pBnd t n i).2.1 ∧ (0 ≤ (pBnd t n i).2.2.1 ∧ (pBnd t n i).2.2.1 ≤ 1000) ∧ -1 ≤ (pBnd t n i).2.2.2 ∧ (pBnd t n i).2.2.2 ≤ 999) := by
  unfold pBnd
  by_cases h1 : ck t n i = 42
  · rw [if_pos h1]
    have h2 := ck_lt (t := t) (n := n) (i := i) (by omega)
    have h3 := sk_le t (n := n) (i := i + 1) (by omega)
    exact ⟨by simp only; omega, by simp only; omega, fun _ => ⟨by simp only; omega, by simp only; omega, by simp only; omega⟩⟩
  · rw [if_neg h1]
    have h2 := bAt_le (t := t) (n := n) (i := i) hi
    have h3 := pVer_ok (t := t) (n := n) (i := bAt t n i) h2.2
    refine ⟨by simp only; omega, h3.2.1, fun q => ?_⟩
    obtain ⟨a1, a2, a3⟩ := h3.2.2 q
    have lR := lowE_R (s := ck t n i) (e := bEq t n i) a2
    have hR := highE_R (s := ck t n i) (e := bEq t n i) (d := (pVer t n (bAt t n i)).2.2.2) a2
    exact ⟨by simp only; omega, lR, hR⟩
theorem pPl_ok {t : Nat → Int} {n : Nat} : ∀ (m : Nat) (x : Bool × Nat × Int × Int), x.2.1 ≤ n → (x.1 = true → (0 ≤ x.2.2.1 ∧ x.2.2.1 ≤ 1000) ∧ -1 ≤ x.2.2.2 ∧ x.2.2.2 ≤ 999) → x.2.1 ≤ (pPl t n m x).2.1 ∧ (pPl t n m x).2.1 ≤ n ∧ ((pPl t n m x).1 = true → (0 ≤ (pPl t n m x).2.2.1 ∧ (pPl t n m x).2.2.1 ≤ 1000) ∧ -1 ≤ (pPl t n m x).2.2.2 ∧ (pPl t n m x).2.2.2 ≤ 999)
  | 0, x, h1, h2 => ⟨Nat.le_refl _, h1, h2⟩
  | m + 1, x, h1, h2 => by
    simp only [pPl]
    by_cases h3 : (x.1 && sb (ck t n x.2.1)) = true
    · rw [if_pos h3]
      have hx : x.1 = true := by simp at h3; exact h3.1
      have hb := pBnd_ok (t := t) (n := n) (i := x.2.1) h1
      have h4 := h2 hx
      have ih := pPl_ok (t := t) (n := n) m ((pBnd t n x.2.1).1, (pBnd t n x.2.1).2.1, (if x.2.2.1 < (pBnd t n x.2.1).2.2.1 then (pBnd t n x.2.1).2.2.1 else x.2.2.1), (if (pBnd t n x.2.1).2.2.2 < x.2.2.2 then (pBnd t n x.2.1).2.2.2 else x.2.2.2)) hb.2.1 (fun q => by
        obtain ⟨a1, a2, a3⟩ := hb.2.2 q
        simp only
        refine ⟨?_, ?_⟩
        · split <;> omega
        · split <;> omega)
      exact ⟨Nat.le_trans hb.1 ih.1, ih.2⟩
    · rw [if_neg h3]
      exact ⟨Nat.le_refl _, h1, h2⟩
theorem pPart_ok {t : Nat → Int} {n i : Nat} (hi : i ≤ n) : i ≤ (pPart t n i).2.1 ∧ (pPart t n i).2.1 ≤ n ∧ ((pPart t n i).1 = true → (0 ≤ (pPart t n i).2.2.1 ∧ (pPart t n i).2.2.1 ≤ 1000) ∧ -1 ≤ (pPart t n i).2.2.2 ∧ (pPart t n i).2.2.2 ≤ 999) := by
  have hb := pBnd_ok (t := t) (n := n) (i := i) hi
  have := pPl_ok (t := t) (n := n) 40 ((pBnd t n i).1, (pBnd t n i).2.1, (if 0 < (pBnd t n i).2.2.1 then (pBnd t n i).2.2.1 else 0), (if (pBnd t n i).2.2.2 < 999 then (pBnd t n i).2.2.2 else 999)) hb.2.1 (fun q => by
    obtain ⟨a1, a2, a3⟩ := hb.2.2 q
    simp only
    refine ⟨?_, ?_⟩
    · split <;> omega
    · split <;> omega)
  exact ⟨Nat.le_trans hb.1 this.1, this.2⟩
def pQ (h : zH) (f : Nat → Int) (x : Bool × Nat × Int × Int) : Option zV → zH → Prop := fun r h' => r = none ∧ ∃ g, h' = sA h 85 g ∧ f6 f g ∧ g 2 = (x.2.1 : Int) ∧ g 3 = (if x.1 then 0 else 1) ∧ (x.1 = true → g 10 = x.2.2.1 ∧ g 11 = x.2.2.2)
set_option maxHeartbeats 4000000 in
theorem sp_parsePart (l : Launch) (G : zG) (h : zH) (f t : Nat → Int) (n i : Nat) (hT : Tx h f t n) (hi : f 2 = (i : Int)) (hi40 : i ≤ n) (hf3 : f 3 = 0) (lv : Nat) (hlv : 4 ≤ lv) : z_Sp l G mtX5_parsePart lv 0 0 [vR 85] (sA h 85 f) (pQ h f (pPart t n i)) := by
  have hT0 := hT
  obtain ⟨k0, k1, r0, r1, r2, hn, hf1, ht, hb⟩ := hT
  have hlo : ∀ (d m : Nat) (g : Nat → Int) (ok : Bool) (j : Nat) (lo hi : Int), m + d = 40 → f6 f g → g 2 = (j : Int) → g 3 = (if ok then 0 else 1) → (ok = true → g 10 = lo ∧ g 11 = hi ∧ (0 ≤ lo ∧ lo ≤ 1000) ∧ -1 ≤ hi ∧ hi ≤ 999) → j ≤ n → pPart t n i = pPl t n d (ok, j, lo, hi) → z_X l G mtX5_parsePart lv 0 0 (pQ h f (pPart t n i)) 0 0 (sA h 85 g) 18 [vR 85, vI m] [] := by
    intro d
    induction d with
    | zero =>
      intro m g ok j lo hi hm hg h2 h3 h4 hj he
      generalize hQ : pQ h f (pPart t n i) = QQ
      refine z_run1 tsX5_parsePart [18] 30 ?_
      simp (maxSteps := 1000000) -implicitDefEqProofs +contextual (disch := omega) only [z_wp_t, z_wp_u, ↓pI_e, ↓pL_e, ↓pO_e, ↓pR_e, ↓p1_I, ↓p1_O, z_gl, z_st1, z_st2, z_nl_I, z_nl_O, z_nl_J, z_nl_L, if_true, if_false, ite_true, ite_false, true_and, and_true, List.mem_cons, List.not_mem_nil, or_false, false_or, or_self, List.length_cons, List.length_nil, InR_t, InL_t, z_ix_t, mI_s1, mI_s2, ↓brT, ↓brF, ↓brT', ↓brF', mL_sI, mR_sI, mK_sI, mS_sI, mI_sL, mL_s1, mL_s2, mR_sL, mK_sL, mS_sL, mI_sR, mL_sR, mR_s1, mR_s2, mK_sR, mS_sR, mA_s1, mA_s2, mL_sA, mR_sA, mK_sA, mS_sA, ix_n, ix_a, ix_m, ix_s, z_sw, z_stop, forall_const, true_implies, false_implies, imp_self, implies_true, not_true_eq_false, not_false_eq_true, ne_eq, eq_self, Option.some.injEq, reduceCtorEq, Nat.reduceAdd, Nat.reduceSub, Nat.reduceMul, Nat.reduceEqDiff, Nat.reduceLT, Nat.reduceLeDiff, Int.reduceAdd, Int.reduceMul, Int.reduceSub, Int.reduceNeg, Int.reduceToNat, Int.reduceLT, Int.reduceLE, Int.reduceEq, ↓reduceIte, List.reverse_cons, Option.toList, List.cons_append, List.nil_append, vI_inj, vL_inj, vO_inj, rI, rL, rO, rV, mI_sQ, mL_sQ, mK_sQ, mS_sQ, mQ_s1, mQ_s2, tlX5_parsePart, tkX5_parsePart, o_aload, o_getI, o_goto, o_ic, o_icge, o_ifeq, o_ifne, o_iinc, o_iload, o_istore, o_putI, o_vret, k0]
      try simp +contextual (disch := omega) only [impF, impT, and_true, true_and, implies_true, not_false_eq_true, not_true_eq_false]
      rw [← hQ, he]
      exact ⟨rfl, g, rfl, hg, h2, h3, fun q => ⟨(h4 q).1, (h4 q).2.1⟩⟩
    | succ d ih =>
      intro m g ok j lo hi hm hg h2 h3 h4 hj he
      have hTg := hT0.up (g := g) (hg 1 (by decide) (by decide) (by decide) (by decide) (by decide) (by decide))
      have hpr := ck_R hb j
      generalize hQ : pQ h f (pPart t n i) = QQ at ih ⊢
      cases ok
      · simp only [Bool.false_eq_true, if_false] at h3
        refine z_run1 tsX5_parsePart [18] 30 ?_
        simp (maxSteps := 1000000) -implicitDefEqProofs +contextual (disch := omega) only [z_wp_t, z_wp_u, ↓pI_e, ↓pL_e, ↓pO_e, ↓pR_e, ↓p1_I, ↓p1_O, z_gl, z_st1, z_st2, z_nl_I, z_nl_O, z_nl_J, z_nl_L, if_true, if_false, ite_true, ite_false, true_and, and_true, List.mem_cons, List.not_mem_nil, or_false, false_or, or_self, List.length_cons, List.length_nil, InR_t, InL_t, z_ix_t, mI_s1, mI_s2, ↓brT, ↓brF, ↓brT', ↓brF', mL_sI, mR_sI, mK_sI, mS_sI, mI_sL, mL_s1, mL_s2, mR_sL, mK_sL, mS_sL, mI_sR, mL_sR, mR_s1, mR_s2, mK_sR, mS_sR, mA_s1, mA_s2, mL_sA, mR_sA, mK_sA, mS_sA, ix_n, ix_a, ix_m, ix_s, z_sw, z_stop, forall_const, true_implies, false_implies, imp_self, implies_true, not_true_eq_false, not_false_eq_true, ne_eq, eq_self, Option.some.injEq, reduceCtorEq, Nat.reduceAdd, Nat.reduceSub, Nat.reduceMul, Nat.reduceEqDiff, Nat.reduceLT, Nat.reduceLeDiff, Int.reduceAdd, Int.reduceMul, Int.reduceSub, Int.reduceNeg, Int.reduceToNat, Int.reduceLT, Int.reduceLE, Int.reduceEq, ↓reduceIte, List.reverse_cons, Option.toList, List.cons_append, List.nil_append, vI_inj, vL_inj, vO_inj, rI, rL, rO, rV, mI_sQ, mL_sQ, mK_sQ, mS_sQ, mQ_s1, mQ_s2, tlX5_parsePart, tkX5_parsePart, o_aload, o_getI, o_goto, o_ic, o_icge, o_ifeq, o_ifne, o_iinc, o_iload, o_istore, o_putI, o_vret, k0, h3]
        try simp +contextual (disch := omega) only [impF, impT, and_true, true_and, implies_true, not_false_eq_true, not_true_eq_false]
        rw [← hQ, he]
        exact ⟨rfl, g, rfl, hg, h2, by rw [h3]; rfl, fun q => by cases q⟩
      · simp only [if_true] at h3
        obtain ⟨g10, g11, b10, b11⟩ := h4 rfl
        refine z_run1 tsX5_parsePart [18] 30 ?_
        simp (maxSteps := 1000000) -implicitDefEqProofs +contextual (disch := omega) only [z_wp_t, z_wp_u, ↓pI_e, ↓pL_e, ↓pO_e, ↓pR_e, ↓p1_I, ↓p1_O, z_gl, z_st1, z_st2, z_nl_I, z_nl_O, z_nl_J, z_nl_L, if_true, if_false, ite_true, ite_false, true_and, and_true, List.mem_cons, List.not_mem_nil, or_false, false_or, or_self, List.length_cons, List.length_nil, InR_t, InL_t, z_ix_t, mI_s1, mI_s2, ↓brT, ↓brF, ↓brT', ↓brF', mL_sI, mR_sI, mK_sI, mS_sI, mI_sL, mL_s1, mL_s2, mR_sL, mK_sL, mS_sL, mI_sR, mL_sR, mR_s1, mR_s2, mK_sR, mS_sR, mA_s1, mA_s2, mL_sA, mR_sA, mK_sA, mS_sA, ix_n, ix_a, ix_m, ix_s, z_sw, z_stop, forall_const, true_implies, false_implies, imp_self, implies_true, not_true_eq_false, not_false_eq_true, ne_eq, eq_self, Option.some.injEq, reduceCtorEq, Nat.reduceAdd, Nat.reduceSub, Nat.reduceMul, Nat.reduceEqDiff, Nat.reduceLT, Nat.reduceLeDiff, Int.reduceAdd, Int.reduceMul, Int.reduceSub, Int.reduceNeg, Int.reduceToNat, Int.reduceLT, Int.reduceLE, Int.reduceEq, ↓reduceIte, List.reverse_cons, Option.toList, List.cons_append, List.nil_append, vI_inj, vL_inj, vO_inj, rI, rL, rO, rV, mI_sQ, mL_sQ, mK_sQ, mS_sQ, mQ_s1, mQ_s2, tlX5_parsePart, tkX5_parsePart, o_aload, o_getI, o_goto, o_ic, o_icge, o_ifeq, o_ifne, o_iinc, o_iload, o_istore, o_putI, o_vret, k0, h3]
        try simp +contextual (disch := omega) only [impF, impT, and_true, true_and, implies_true, not_false_eq_true, not_true_eq_false]
        refine x_callV (by decide +kernel) cv_X5_68 (sp_peek l G h g t n j hTg h2 (by omega) 1 (by omega)) k0 (by omega) rfl (by omega) (by omega) rfl (Nat.le_of_ble_eq_true rfl) ?_
        rintro r h' ⟨rfl, rfl⟩
        refine z_run1 tsX5_parsePart [18] 30 ?_
        simp (maxSteps := 1000000) -implicitDefEqProofs +contextual (disch := omega) only [z_wp_t, z_wp_u, ↓pI_e, ↓pL_e, ↓pO_e, ↓pR_e, ↓p1_I, ↓p1_O, z_gl, z_st1, z_st2, z_nl_I, z_nl_O, z_nl_J, z_nl_L, if_true, if_false, ite_true, ite_false, true_and, and_true, List.mem_cons, List.not_mem_nil, or_false, false_or, or_self, List.length_cons, List.length_nil, InR_t, InL_t, z_ix_t, mI_s1, mI_s2, ↓brT, ↓brF, ↓brT', ↓brF', mL_sI, mR_sI, mK_sI, mS_sI, mI_sL, mL_s1, mL_s2, mR_sL, mK_sL, mS_sL, mI_sR, mL_sR, mR_s1, mR_s2, mK_sR, mS_sR, mA_s1, mA_s2, mL_sA, mR_sA, mK_sA, mS_sA, ix_n, ix_a, ix_m, ix_s, z_sw, z_stop, forall_const, true_implies, false_implies, imp_self, implies_true, not_true_eq_false, not_false_eq_true, ne_eq, eq_self, Option.some.injEq, reduceCtorEq, Nat.reduceAdd, Nat.reduceSub, Nat.reduceMul, Nat.reduceEqDiff, Nat.reduceLT, Nat.reduceLeDiff, Int.reduceAdd, Int.reduceMul, Int.reduceSub, Int.reduceNeg, Int.reduceToNat, Int.reduceLT, Int.reduceLE, Int.reduceEq, ↓reduceIte, List.reverse_cons, Option.toList, List.cons_append, List.nil_append, vI_inj, vL_inj, vO_inj, rI, rL, rO, rV, mI_sQ, mL_sQ, mK_sQ, mS_sQ, mQ_s1, mQ_s2, tlX5_parsePart, tkX5_parsePart, o_aload, o_getI, o_goto, o_ic, o_icge, o_ifeq, o_ifne, o_iinc, o_iload, o_istore, o_putI, o_vret, k0]
        try simp +contextual (disch := omega) only [impF, impT, and_true, true_and, implies_true, not_false_eq_true, not_true_eq_false]
        refine x_callS (by decide +kernel) cv_X5_106 (sp_startsBound l G _ (ck t n j) (by unfold InR; omega) 2 (by omega)) (by omega) rfl (by omega) (by omega) rfl (Nat.le_of_ble_eq_true rfl) ?_
        rintro r h' ⟨rfl, rfl⟩
        cases hsb : sb (ck t n j)
        · simp only [Bool.false_eq_true, if_false]
          refine z_run1 tsX5_parsePart [18] 30 ?_
          simp (maxSteps := 1000000) -implicitDefEqProofs +contextual (disch := omega) only [z_wp_t, z_wp_u, ↓pI_e, ↓pL_e, ↓pO_e, ↓pR_e, ↓p1_I, ↓p1_O, z_gl, z_st1, z_st2, z_nl_I, z_nl_O, z_nl_J, z_nl_L, if_true, if_false, ite_true, ite_false, true_and, and_true, List.mem_cons, List.not_mem_nil, or_false, false_or, or_self, List.length_cons, List.length_nil, InR_t, InL_t, z_ix_t, mI_s1, mI_s2, ↓brT, ↓brF, ↓brT', ↓brF', mL_sI, mR_sI, mK_sI, mS_sI, mI_sL, mL_s1, mL_s2, mR_sL, mK_sL, mS_sL, mI_sR, mL_sR, mR_s1, mR_s2, mK_sR, mS_sR, mA_s1, mA_s2, mL_sA, mR_sA, mK_sA, mS_sA, ix_n, ix_a, ix_m, ix_s, z_sw, z_stop, forall_const, true_implies, false_implies, imp_self, implies_true, not_true_eq_false, not_false_eq_true, ne_eq, eq_self, Option.some.injEq, reduceCtorEq, Nat.reduceAdd, Nat.reduceSub, Nat.reduceMul, Nat.reduceEqDiff, Nat.reduceLT, Nat.reduceLeDiff, Int.reduceAdd, Int.reduceMul, Int.reduceSub, Int.reduceNeg, Int.reduceToNat, Int.reduceLT, Int.reduceLE, Int.reduceEq, ↓reduceIte, List.reverse_cons, Option.toList, List.cons_append, List.nil_append, vI_inj, vL_inj, vO_inj, rI, rL, rO, rV, mI_sQ, mL_sQ, mK_sQ, mS_sQ, mQ_s1, mQ_s2, tlX5_parsePart, tkX5_parsePart, o_aload, o_getI, o_goto, o_ic, o_icge, o_ifeq, o_ifne, o_iinc, o_iload, o_istore, o_putI, o_vret, k0]
          try simp +contextual (disch := omega) only [impF, impT, and_true, true_and, implies_true, not_false_eq_true, not_true_eq_false]
          rw [← hQ, he]
          simp only [pPl, hsb, Bool.and_false, Bool.false_eq_true, if_false]
          exact ⟨rfl, g, rfl, hg, h2, by rw [h3]; rfl, fun q => ⟨g10, g11⟩⟩
        · simp only [if_true]
          have he2 := he
          simp only [pPl, hsb, Bool.and_true, if_true] at he2
          have hbo := pBnd_ok (t := t) (n := n) (i := j) hj
          refine z_run1 tsX5_parsePart [18] 30 ?_
          simp (maxSteps := 1000000) -implicitDefEqProofs +contextual (disch := omega) only [z_wp_t, z_wp_u, ↓pI_e, ↓pL_e, ↓pO_e, ↓pR_e, ↓p1_I, ↓p1_O, z_gl, z_st1, z_st2, z_nl_I, z_nl_O, z_nl_J, z_nl_L, if_true, if_false, ite_true, ite_false, true_and, and_true, List.mem_cons, List.not_mem_nil, or_false, false_or, or_self, List.length_cons, List.length_nil, InR_t, InL_t, z_ix_t, mI_s1, mI_s2, ↓brT, ↓brF, ↓brT', ↓brF', mL_sI, mR_sI, mK_sI, mS_sI, mI_sL, mL_s1, mL_s2, mR_sL, mK_sL, mS_sL, mI_sR, mL_sR, mR_s1, mR_s2, mK_sR, mS_sR, mA_s1, mA_s2, mL_sA, mR_sA, mK_sA, mS_sA, ix_n, ix_a, ix_m, ix_s, z_sw, z_stop, forall_const, true_implies, false_implies, imp_self, implies_true, not_true_eq_false, not_false_eq_true, ne_eq, eq_self, Option.some.injEq, reduceCtorEq, Nat.reduceAdd, Nat.reduceSub, Nat.reduceMul, Nat.reduceEqDiff, Nat.reduceLT, Nat.reduceLeDiff, Int.reduceAdd, Int.reduceMul, Int.reduceSub, Int.reduceNeg, Int.reduceToNat, Int.reduceLT, Int.reduceLE, Int.reduceEq, ↓reduceIte, List.reverse_cons, Option.toList, List.cons_append, List.nil_append, vI_inj, vL_inj, vO_inj, rI, rL, rO, rV, mI_sQ, mL_sQ, mK_sQ, mS_sQ, mQ_s1, mQ_s2, tlX5_parsePart, tkX5_parsePart, o_aload, o_getI, o_goto, o_ic, o_icge, o_ifeq, o_ifne, o_iinc, o_iload, o_istore, o_putI, o_vret, k0]
          try simp +contextual (disch := omega) only [impF, impT, and_true, true_and, implies_true, not_false_eq_true, not_true_eq_false]
          refine x_callV (by decide +kernel) cv_X5_103 (sp_parseBound l G h g t n j hTg h2 hj h3 (by rw [g10]; omega) (by rw [g11]; omega) 3 (by omega)) k0 (by omega) rfl (by omega) (by omega) rfl (Nat.le_of_ble_eq_true rfl) ?_
          rintro r h' ⟨rfl, g', rfl, hg', q2, q3, q4⟩
          rw [g10, g11] at q4
          generalize hy : pBnd t n j = y at hbo q2 q3 q4 he2
          obtain ⟨ok', j', lo', hi'⟩ := y
          simp only at hbo q2 q3 q4 he2
          have hnext := ih (m + 1) g' ok' j' _ _ (by omega) (fun k a b c d e f => (hg' k a b c d e f).trans (hg k a b c d e f)) q2 q3 (fun q => by
            obtain ⟨a1, a2⟩ := q4 q
            obtain ⟨c1, c2, c3⟩ := hbo.2.2 q
            refine ⟨a1, a2, ?_, ?_⟩
            · split <;> omega
            · split <;> omega) hbo.2.1 he2
          refine z_run1 tsX5_parsePart [18] 30 ?_
          simp (maxSteps := 1000000) -implicitDefEqProofs +contextual (disch := omega) only [z_wp_t, z_wp_u, ↓pI_e, ↓pL_e, ↓pO_e, ↓pR_e, ↓p1_I, ↓p1_O, z_gl, z_st1, z_st2, z_nl_I, z_nl_O, z_nl_J, z_nl_L, if_true, if_false, ite_true, ite_false, true_and, and_true, List.mem_cons, List.not_mem_nil, or_false, false_or, or_self, List.length_cons, List.length_nil, InR_t, InL_t, z_ix_t, mI_s1, mI_s2, ↓brT, ↓brF, ↓brT', ↓brF', mL_sI, mR_sI, mK_sI, mS_sI, mI_sL, mL_s1, mL_s2, mR_sL, mK_sL, mS_sL, mI_sR, mL_sR, mR_s1, mR_s2, mK_sR, mS_sR, mA_s1, mA_s2, mL_sA, mR_sA, mK_sA, mS_sA, ix_n, ix_a, ix_m, ix_s, z_sw, z_stop, forall_const, true_implies, false_implies, imp_self, implies_true, not_true_eq_false, not_false_eq_true, ne_eq, eq_self, Option.some.injEq, reduceCtorEq, Nat.reduceAdd, Nat.reduceSub, Nat.reduceMul, Nat.reduceEqDiff, Nat.reduceLT, Nat.reduceLeDiff, Int.reduceAdd, Int.reduceMul, Int.reduceSub, Int.reduceNeg, Int.reduceToNat, Int.reduceLT, Int.reduceLE, Int.reduceEq, ↓reduceIte, List.reverse_cons, Option.toList, List.cons_append, List.nil_append, vI_inj, vL_inj, vO_inj, rI, rL, rO, rV, mI_sQ, mL_sQ, mK_sQ, mS_sQ, mQ_s1, mQ_s2, tlX5_parsePart, tkX5_parsePart, o_aload, o_getI, o_goto, o_ic, o_icge, o_ifeq, o_ifne, o_iinc, o_iload, o_istore, o_putI, o_vret, k0]
          try simp +contextual (disch := omega) only [impF, impT, and_true, true_and, implies_true, not_false_eq_true, not_true_eq_false]
          exact hnext
  have hbo := pBnd_ok (t := t) (n := n) (i := i) hi40
  have hst : ∀ g', f6 f g' → g' 2 = ((pBnd t n i).2.1 : Int) → g' 3 = (if (pBnd t n i).1 then 0 else 1) → ((pBnd t n i).1 = true → g' 10 = (if 0 < (pBnd t n i).2.2.1 then (pBnd t n i).2.2.1 else 0) ∧ g' 11 = (if (pBnd t n i).2.2.2 < 999 then (pBnd t n i).2.2.2 else 999)) → z_X l G mtX5_parsePart lv 0 0 (pQ h f (pPart t n i)) 0 0 (sA h 85 g') 18 [vR 85, vI 0] [] := by
    intro g' a1 a2 a3 a4
    refine hlo 40 0 g' (pBnd t n i).1 (pBnd t n i).2.1 _ _ (by omega) a1 a2 a3 (fun q => ?_) hbo.2.1 rfl
    obtain ⟨c1, c2, c3⟩ := hbo.2.2 q
    obtain ⟨d1, d2⟩ := a4 q
    refine ⟨d1, d2, ?_, ?_⟩
    · split <;> omega
    · split <;> omega
  refine x_enter [vR 85, vJ] (by decide +kernel) (by omega) rfl (Nat.le_of_ble_eq_true rfl) ?_
  generalize hQ : pQ h f (pPart t n i) = QQ at hst ⊢
  refine z_run1 tsX5_parsePart [] 30 ?_
  simp (maxSteps := 1000000) -implicitDefEqProofs +contextual (disch := omega) only [z_wp_t, z_wp_u, ↓pI_e, ↓pL_e, ↓pO_e, ↓pR_e, ↓p1_I, ↓p1_O, z_gl, z_st1, z_st2, z_nl_I, z_nl_O, z_nl_J, z_nl_L, if_true, if_false, ite_true, ite_false, true_and, and_true, List.mem_cons, List.not_mem_nil, or_false, false_or, or_self, List.length_cons, List.length_nil, InR_t, InL_t, z_ix_t, mI_s1, mI_s2, ↓brT, ↓brF, ↓brT', ↓brF', mL_sI, mR_sI, mK_sI, mS_sI, mI_sL, mL_s1, mL_s2, mR_sL, mK_sL, mS_sL, mI_sR, mL_sR, mR_s1, mR_s2, mK_sR, mS_sR, mA_s1, mA_s2, mL_sA, mR_sA, mK_sA, mS_sA, ix_n, ix_a, ix_m, ix_s, z_sw, z_stop, forall_const, true_implies, false_implies, imp_self, implies_true, not_true_eq_false, not_false_eq_true, ne_eq, eq_self, Option.some.injEq, reduceCtorEq, Nat.reduceAdd, Nat.reduceSub, Nat.reduceMul, Nat.reduceEqDiff, Nat.reduceLT, Nat.reduceLeDiff, Int.reduceAdd, Int.reduceMul, Int.reduceSub, Int.reduceNeg, Int.reduceToNat, Int.reduceLT, Int.reduceLE, Int.reduceEq, ↓reduceIte, List.reverse_cons, Option.toList, List.cons_append, List.nil_append, vI_inj, vL_inj, vO_inj, rI, rL, rO, rV, mI_sQ, mL_sQ, mK_sQ, mS_sQ, mQ_s1, mQ_s2, tlX5_parsePart, tkX5_parsePart, o_aload, o_getI, o_goto, o_ic, o_icge, o_ifeq, o_ifne, o_iinc, o_iload, o_istore, o_putI, o_vret, k0, sI_sA]
  try simp +contextual (disch := omega) only [impF, impT, and_true, true_and, implies_true, not_false_eq_true, not_true_eq_false]
  refine x_callV (by decide +kernel) cv_X5_103 (sp_parseBound l G h (up (up f 10 0) 11 999) t n i (hT0.up (by rw [up_n _ _ (by decide), up_n _ _ (by decide)])) (by rw [up_n _ _ (by decide), up_n _ _ (by decide)]; exact hi) hi40 (by rw [up_n _ _ (by decide), up_n _ _ (by decide)]; exact hf3) (by rw [up_n _ _ (by decide), up_s]; omega) (by rw [up_s]; omega) 3 (by omega)) k0 (by omega) rfl (by omega) (by omega) rfl (Nat.le_of_ble_eq_true rfl) ?_
  rintro r h' ⟨rfl, g', rfl, hg', q2, q3, q4⟩
  rw [up_s, up_n _ _ (by decide), up_s] at q4
  have hfin := hst g' (fun k a b c d e f => by rw [hg' k a b c d e f, up_n _ _ (by omega), up_n _ _ (by omega)]) q2 q3 q4
  refine z_run1 tsX5_parsePart [18] 30 ?_
  simp (maxSteps := 1000000) -implicitDefEqProofs +contextual (disch := omega) only [z_wp_t, z_wp_u, ↓pI_e, ↓pL_e, ↓pO_e, ↓pR_e, ↓p1_I, ↓p1_O, z_gl, z_st1, z_st2, z_nl_I, z_nl_O, z_nl_J, z_nl_L, if_true, if_false, ite_true, ite_false, true_and, and_true, List.mem_cons, List.not_mem_nil, or_false, false_or, or_self, List.length_cons, List.length_nil, InR_t, InL_t, z_ix_t, mI_s1, mI_s2, ↓brT, ↓brF, ↓brT', ↓brF', mL_sI, mR_sI, mK_sI, mS_sI, mI_sL, mL_s1, mL_s2, mR_sL, mK_sL, mS_sL, mI_sR, mL_sR, mR_s1, mR_s2, mK_sR, mS_sR, mA_s1, mA_s2, mL_sA, mR_sA, mK_sA, mS_sA, ix_n, ix_a, ix_m, ix_s, z_sw, z_stop, forall_const, true_implies, false_implies, imp_self, implies_true, not_true_eq_false, not_false_eq_true, ne_eq, eq_self, Option.some.injEq, reduceCtorEq, Nat.reduceAdd, Nat.reduceSub, Nat.reduceMul, Nat.reduceEqDiff, Nat.reduceLT, Nat.reduceLeDiff, Int.reduceAdd, Int.reduceMul, Int.reduceSub, Int.reduceNeg, Int.reduceToNat, Int.reduceLT, Int.reduceLE, Int.reduceEq, ↓reduceIte, List.reverse_cons, Option.toList, List.cons_append, List.nil_append, vI_inj, vL_inj, vO_inj, rI, rL, rO, rV, mI_sQ, mL_sQ, mK_sQ, mS_sQ, mQ_s1, mQ_s2, tlX5_parsePart, tkX5_parsePart, o_aload, o_getI, o_goto, o_ic, o_icge, o_ifeq, o_ifne, o_iinc, o_iload, o_istore, o_putI, o_vret, k0]
  try simp +contextual (disch := omega) only [impF, impT, and_true, true_and, implies_true, not_false_eq_true, not_true_eq_false]
  exact hfin
