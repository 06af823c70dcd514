/-! RuleText.parseBound, parsePart -/
def bEq (t : Nat → Int) (n i : Nat) : Int := if (ck t n i = 62 ∨ ck t n i = 60) ∧ ck t n (i + 1) = 61 then 1 else 0
def bAt (t : Nat → Int) (n i : Nat) : Nat := if sg (ck t n i) then (if bEq t n i = 1 then sk t n (i + 2) else sk t n (i + 1)) else i
/-- a bound at i: whether it is one, where it ends, its least and greatest version -/
def pBnd (t : Nat → Int) (n i : Nat) : Bool × Nat × Int × Int := if ck t n i = 42 then (true, sk t n (i + 1), 0, 999) else ((pVer t n (bAt t n i)).1, (pVer t n (bAt t n i)).2.1, lowE (ck t n i) (bEq t n i) (pVer t n (bAt t n i)).2.2.1, highE (ck t n i) (bEq t n i) (pVer t n (bAt t n i)).2.2.1 (pVer t n (bAt t n i)).2.2.2)
theorem pFin_le {t : Nat → Int} {n j : Nat} {v d : Int} (hj : j ≤ n) : j ≤ (pFin t n j v d).2.1 ∧ (pFin t n j v d).2.1 ≤ n ∧ (pFin t n j v d).2.2 = (v, d) := by
  unfold pFin
  split
  · exact ⟨Nat.le_refl _, hj, rfl⟩
  · have := sk_le t hj
    exact ⟨this.1, this.2, rfl⟩
theorem dg_lt {t : Nat → Int} {n j : Nat} (h : dg (ck t n j) = true) : j < n ∧ 0 ≤ ck t n j - 48 ∧ ck t n j - 48 ≤ 9 := by
  have h1 : 48 ≤ ck t n j ∧ ck t n j ≤ 57 := by simpa [dg] using h
  exact ⟨ck_lt (t := t) (n := n) (i := j) (by omega), by omega, by omega⟩
/-- a version: it ends in the text; if it is one, it has one to three digits, and takes at least a byte -/
theorem pVer_ok {t : Nat → Int} {n i : Nat} (hi : i ≤ n) : i ≤ (pVer t n i).2.1 ∧ (pVer t n i).2.1 ≤ n ∧ ((pVer t n i).1 = true → i < (pVer t n i).2.1 ∧ (0 ≤ (pVer t n i).2.2.1 ∧ (pVer t n i).2.2.1 ≤ 999) ∧ 1 ≤ (pVer t n i).2.2.2 ∧ (pVer t n i).2.2.2 ≤ 3) := by
  unfold pVer
  by_cases h1 : dg (ck t n i) = true
  · have a1 := dg_lt h1
    rw [if_pos h1]
    by_cases h2 : ck t n (i + 1) = 46
    · rw [if_pos h2]
      have a2 := ck_lt (t := t) (n := n) (i := i + 1) (by omega)
      unfold pV2
      by_cases h3 : dg (ck t n (i + 2)) = true
      · have a3 := dg_lt h3
        rw [if_pos h3]
        by_cases h4 : ck t n (i + 2 + 1) = 46
        · rw [if_pos h4]
          have a4 := ck_lt (t := t) (n := n) (i := i + 2 + 1) (by omega)
          unfold pV3
          by_cases h5 : dg (ck t n (i + 2 + 2)) = true
          · have a5 := dg_lt h5
            rw [if_pos h5]
            obtain ⟨b1, b2, b3⟩ := pFin_le (t := t) (n := n) (j := i + 2 + 2 + 1) (v := 0 + (ck t n i - 48) * 100 + (ck t n (i + 2) - 48) * 10 + (ck t n (i + 2 + 2) - 48) * 1) (d := 3) (by omega)
            rw [b3]
            exact ⟨by omega, b2, fun _ => ⟨by omega, by simp only; omega, by simp only; omega⟩⟩
          · rw [if_neg h5]
            exact ⟨by simp only; omega, by simp only; omega, fun q => by cases q⟩
        · rw [if_neg h4]
          obtain ⟨b1, b2, b3⟩ := pFin_le (t := t) (n := n) (j := i + 2 + 1) (v := 0 + (ck t n i - 48) * 100 + (ck t n (i + 2) - 48) * 10) (d := 2) (by omega)
          rw [b3]
          exact ⟨by omega, b2, fun _ => ⟨by omega, by simp only; omega, by simp only; omega⟩⟩
      · rw [if_neg h3]
        exact ⟨by simp only; omega, by simp only; omega, fun q => by cases q⟩
    · rw [if_neg h2]
      obtain ⟨b1, b2, b3⟩ := pFin_le (t := t) (n := n) (j := i + 1) (v := 0 + (ck t n i - 48) * 100) (d := 1) (by omega)
      rw [b3]
      exact ⟨by omega, b2, fun _ => ⟨by omega, by simp only; omega, by simp only; omega⟩⟩
  · rw [if_neg h1]
    exact ⟨by simp only; omega, by simp only; omega, fun q => by cases q⟩
theorem bAt_le {t : Nat → Int} {n i : Nat} (hi : i ≤ n) : i ≤ bAt t n i ∧ bAt t n i ≤ n := by
  unfold bAt
  by_cases h1 : sg (ck t n i) = true
  · rw [if_pos h1]
    have h2 : ck t n i ≠ -1 := fun q => by rw [q] at h1; revert h1; decide
    have h3 := ck_lt h2
    by_cases h4 : bEq t n i = 1
    · rw [if_pos h4]
      have h5 : ck t n (i + 1) = 61 := by unfold bEq at h4; split at h4; rename_i q; exact q.2; omega
      have h6 := ck_lt (t := t) (n := n) (i := i + 1) (by omega)
      have := sk_le t (n := n) (i := i + 2) (by omega)
      omega
    · rw [if_neg h4]
      have := sk_le t (n := n) (i := i + 1) (by omega)
      omega
  · rw [if_neg h1]
    omega
def f6 (f g : Nat → Int) : Prop := ∀ k, k ≠ 2 → k ≠ 3 → k ≠ 10 → k ≠ 11 → k ≠ 12 → k ≠ 13 → g k = f k
/-- what parseBound leaves -/
def bQ (h : zH) (f : Nat → Int) (x : Bool × Nat × Int × Int) : Option zV → zH → Prop := fun r h' => r = none ∧ ∃ g, h' = sA h 85 g ∧ f6 f g ∧ g 2 = (x.2.1 : Int) ∧ g 3 = (if x.1 then 0 else 1) ∧ (x.1 = true → g 10 = (if f 10 < x.2.2.1 then x.2.2.1 else f 10) ∧ g 11 = (if x.2.2.2 < f 11 then x.2.2.2 else f 11))
theorem lowE_R {s e v : Int} (hv : 0 ≤ v ∧ v ≤ 999) : 0 ≤ lowE s e v ∧ lowE s e v ≤ 1000 := by
  unfold lowE
  split
  · omega
  · split <;> omega
theorem highE_R {s e v d : Int} (hv : 0 ≤ v ∧ v ≤ 999) : -1 ≤ highE s e v d ∧ highE s e v d ≤ 999 := by
  have h1 : v.tmod 100 = v % 100 := Int.tmod_eq_emod_of_nonneg hv.1
  have h2 : v.tmod 10 = v % 10 := Int.tmod_eq_emod_of_nonneg hv.1
  unfold highE alikeE
  rw [h1, h2]
  split
  · split <;> omega
  · split
    · omega
    · split
      · omega
      · split <;> omega
set_option maxHeartbeats 4000000 in
theorem sp_parseBound (l : Launch) (G : zG) (h : zH) (f t : Nat → Int) (n i : Nat) (hT : Tx h f t n) (hi : f 2 = (i : Int)) (hi40 : i ≤ n) (hf3 : f 3 = 0) (hlo : 0 ≤ f 10 ∧ f 10 ≤ 1000) (hhi : -1 ≤ f 11 ∧ f 11 ≤ 999) (lv : Nat) (hlv : 3 ≤ lv) : z_Sp l G mtX5_parseBound lv 0 0 [vR 85] (sA h 85 f) (bQ h f (pBnd t n i)) := by
  have hT0 := hT
  obtain ⟨k0, k1, r0, r1, r2, hn, hf1, ht, hb⟩ := hT
  have hpr := ck_R hb i
  have hpr1 := ck_R hb (i + 1)
  -- behind the sign: the version, the ends
  have ver : ∀ (g : Nat → Int), f4 f g → g 2 = (bAt t n i : Int) → g 3 = 0 → ck t n i ≠ 42 → z_X l G mtX5_parseBound lv 0 0 (bQ h f (pBnd t n i)) 0 0 (sA h 85 g) 78 [vR 85, vI (ck t n i), vI (bEq t n i)] [] := by
    intro g hg h2 h3 hst
    have hTg := hT0.up (g := g) (hg 1 (by decide) (by decide) (by decide) (by decide))
    have hat := bAt_le (t := t) (n := n) (i := i) hi40
    have hok := pVer_ok (t := t) (n := n) (i := bAt t n i) hat.2
    have heq : bEq t n i = 0 ∨ bEq t n i = 1 := by unfold bEq; split <;> omega
    have g10 := hg 10 (by decide) (by decide) (by decide) (by decide)
    have g11 := hg 11 (by decide) (by decide) (by decide) (by decide)
    have hpb : pBnd t n i = ((pVer t n (bAt t n i)).1, (pVer t n (bAt t n i)).2.1, lowE (ck t n i) (bEq t n i) (pVer t n (bAt t n i)).2.2.1, highE (ck t n i) (bEq t n i) (pVer t n (bAt t n i)).2.2.1 (pVer t n (bAt t n i)).2.2.2) := by unfold pBnd; rw [if_neg hst]
    rw [hpb]
    clear hpb
    generalize hx : pVer t n (bAt t n i) = x at hok ⊢
    obtain ⟨ok, j, v, d⟩ := x
    simp only at hok ⊢
    generalize hQ : bQ h f (ok, j, lowE (ck t n i) (bEq t n i) v, highE (ck t n i) (bEq t n i) v d) = QQ
    generalize hs : ck t n i = s at hpr hst hQ ⊢
    generalize he : bEq t n i = e at heq hQ ⊢
    refine z_run1 tsX5_parseBound [] 30 ?_
    simp (maxSteps := 1000000) -implicitDefEqProofs +contextual (disch := omega) only [z_wp_t, z_wp_u, ↓pI_e, ↓pL_e, ↓pO_e, ↓pR_e, ↓p1_I, ↓p1_O, z_gl, z_st1, z_st2, z_nl_I, z_nl_O, z_nl_J, z_nl_L, if_true, if_false, ite_true, ite_false, true_and, and_true, List.mem_cons, List.not_mem_nil, or_false, false_or, or_self, List.length_cons, List.length_nil, InR_t, InL_t, z_ix_t, mI_s1, mI_s2, ↓brT, ↓brF, ↓brT', ↓brF', mL_sI, mR_sI, mK_sI, mS_sI, mI_sL, mL_s1, mL_s2, mR_sL, mK_sL, mS_sL, mI_sR, mL_sR, mR_s1, mR_s2, mK_sR, mS_sR, mA_s1, mA_s2, mL_sA, mR_sA, mK_sA, mS_sA, ix_n, ix_a, ix_m, ix_s, z_sw, z_stop, forall_const, true_implies, false_implies, imp_self, implies_true, not_true_eq_false, not_false_eq_true, ne_eq, eq_self, Option.some.injEq, reduceCtorEq, Nat.reduceAdd, Nat.reduceSub, Nat.reduceMul, Nat.reduceEqDiff, Nat.reduceLT, Nat.reduceLeDiff, Int.reduceAdd, Int.reduceMul, Int.reduceSub, Int.reduceNeg, Int.reduceToNat, Int.reduceLT, Int.reduceLE, Int.reduceEq, ↓reduceIte, List.reverse_cons, Option.toList, List.cons_append, List.nil_append, vI_inj, vL_inj, vO_inj, rI, rL, rO, rV, mI_sQ, mL_sQ, mK_sQ, mS_sQ, mQ_s1, mQ_s2, tlX5_parseBound, tkX5_parseBound, o_aload, o_dup, o_getI, o_iadd, o_ic, o_iceq, o_icne, o_ifeq, o_ifne, o_iload, o_istore, o_putI, o_vret, k0]
    try simp +contextual (disch := omega) only [impF, impT, and_true, true_and, implies_true, not_false_eq_true, not_true_eq_false]
    refine x_callV (by decide +kernel) cv_X5_115 (sp_parseVersion l G h g t n (bAt t n i) hTg h2 hat.2 h3 2 (by omega)) k0 (by omega) rfl (by omega) (by omega) rfl (Nat.le_of_ble_eq_true rfl) ?_
    rintro r h' ⟨rfl, g', rfl, hg', q2, q3, q4⟩
    rw [hx] at q2 q3 q4
    simp only at q2 q3 q4
    have hk : ∀ k, k ≠ 2 → k ≠ 3 → k ≠ 12 → k ≠ 13 → g' k = f k := fun k a b c d => (hg' k a b c d).trans (hg k a b c d)
    cases ok
    · simp only [Bool.false_eq_true, if_false] at q3
      refine z_run1 tsX5_parseBound [] 30 ?_
      simp (maxSteps := 1000000) -implicitDefEqProofs +contextual (disch := omega) only [z_wp_t, z_wp_u, ↓pI_e, ↓pL_e, ↓pO_e, ↓pR_e, ↓p1_I, ↓p1_O, z_gl, z_st1, z_st2, z_nl_I, z_nl_O, z_nl_J, z_nl_L, if_true, if_false, ite_true, ite_false, true_and, and_true, List.mem_cons, List.not_mem_nil, or_false, false_or, or_self, List.length_cons, List.length_nil, InR_t, InL_t, z_ix_t, mI_s1, mI_s2, ↓brT, ↓brF, ↓brT', ↓brF', mL_sI, mR_sI, mK_sI, mS_sI, mI_sL, mL_s1, mL_s2, mR_sL, mK_sL, mS_sL, mI_sR, mL_sR, mR_s1, mR_s2, mK_sR, mS_sR, mA_s1, mA_s2, mL_sA, mR_sA, mK_sA, mS_sA, ix_n, ix_a, ix_m, ix_s, z_sw, z_stop, forall_const, true_implies, false_implies, imp_self, implies_true, not_true_eq_false, not_false_eq_true, ne_eq, eq_self, Option.some.injEq, reduceCtorEq, Nat.reduceAdd, Nat.reduceSub, Nat.reduceMul, Nat.reduceEqDiff, Nat.reduceLT, Nat.reduceLeDiff, Int.reduceAdd, Int.reduceMul, Int.reduceSub, Int.reduceNeg, Int.reduceToNat, Int.reduceLT, Int.reduceLE, Int.reduceEq, ↓reduceIte, List.reverse_cons, Option.toList, List.cons_append, List.nil_append, vI_inj, vL_inj, vO_inj, rI, rL, rO, rV, mI_sQ, mL_sQ, mK_sQ, mS_sQ, mQ_s1, mQ_s2, tlX5_parseBound, tkX5_parseBound, o_aload, o_dup, o_getI, o_iadd, o_ic, o_iceq, o_icne, o_ifeq, o_ifne, o_iload, o_istore, o_putI, o_vret, k0, q3]
      try simp +contextual (disch := omega) only [impF, impT, and_true, true_and, implies_true, not_false_eq_true, not_true_eq_false]
      rw [← hQ]
      exact ⟨rfl, g', rfl, fun k a b c d e f => hk k a b e f, q2, by rw [q3]; rfl, fun q => by cases q⟩
    · obtain ⟨q12, q13⟩ := q4 rfl
      obtain ⟨o1, o2, o3⟩ := hok.2.2 rfl
      simp only [if_true] at q3
      have e10 := hk 10 (by decide) (by decide) (by decide) (by decide)
      have e11 := hk 11 (by decide) (by decide) (by decide) (by decide)
      have lR := lowE_R (s := s) (e := e) o2
      have hR := highE_R (s := s) (e := e) (d := d) o2
      refine z_run1 tsX5_parseBound [] 30 ?_
      simp (maxSteps := 1000000) -implicitDefEqProofs +contextual (disch := omega) only [z_wp_t, z_wp_u, ↓pI_e, ↓pL_e, ↓pO_e, ↓pR_e, ↓p1_I, ↓p1_O, z_gl, z_st1, z_st2, z_nl_I, z_nl_O, z_nl_J, z_nl_L, if_true, if_false, ite_true, ite_false, true_and, and_true, List.mem_cons, List.not_mem_nil, or_false, false_or, or_self, List.length_cons, List.length_nil, InR_t, InL_t, z_ix_t, mI_s1, mI_s2, ↓brT, ↓brF, ↓brT', ↓brF', mL_sI, mR_sI, mK_sI, mS_sI, mI_sL, mL_s1, mL_s2, mR_sL, mK_sL, mS_sL, mI_sR, mL_sR, mR_s1, mR_s2, mK_sR, mS_sR, mA_s1, mA_s2, mL_sA, mR_sA, mK_sA, mS_sA, ix_n, ix_a, ix_m, ix_s, z_sw, z_stop, forall_const, true_implies, false_implies, imp_self, implies_true, not_true_eq_false, not_false_eq_true, ne_eq, eq_self, Option.some.injEq, reduceCtorEq, Nat.reduceAdd, Nat.reduceSub, Nat.reduceMul, Nat.reduceEqDiff, Nat.reduceLT, Nat.reduceLeDiff, Int.reduceAdd, Int.reduceMul, Int.reduceSub, Int.reduceNeg, Int.reduceToNat, Int.reduceLT, Int.reduceLE, Int.reduceEq, ↓reduceIte, List.reverse_cons, Option.toList, List.cons_append, List.nil_append, vI_inj, vL_inj, vO_inj, rI, rL, rO, rV, mI_sQ, mL_sQ, mK_sQ, mS_sQ, mQ_s1, mQ_s2, tlX5_parseBound, tkX5_parseBound, o_aload, o_dup, o_getI, o_iadd, o_ic, o_iceq, o_icne, o_ifeq, o_ifne, o_iload, o_istore, o_putI, o_vret, k0, q3, e10]
      try simp +contextual (disch := omega) only [impF, impT, and_true, true_and, implies_true, not_false_eq_true, not_true_eq_false]
      refine x_callV (by decide +kernel) cv_X5_118 (sp_lowEnd l G h g' s e v k0 q12 (by unfold InR; omega) heq 1 (by omega)) k0 (by omega) rfl (by omega) (by omega) rfl (Nat.le_of_ble_eq_true rfl) ?_
      rintro r h' ⟨rfl, rfl⟩
      generalize hlw : lowE s e v = lo at lR hQ ⊢
      generalize hhw : highE s e v d = hi at hR hQ ⊢
      refine x_max (by decide +kernel) cv_X5_122 (by unfold InR; omega) (by unfold InR; omega) (Nat.le_of_ble_eq_true rfl) ?_
      generalize hm1 : (if f 10 < lo then lo else f 10) = m1
      refine z_run1 tsX5_parseBound [] 30 ?_
      simp (maxSteps := 1000000) -implicitDefEqProofs +contextual (disch := omega) only [z_wp_t, z_wp_u, ↓pI_e, ↓pL_e, ↓pO_e, ↓pR_e, ↓p1_I, ↓p1_O, z_gl, z_st1, z_st2, z_nl_I, z_nl_O, z_nl_J, z_nl_L, if_true, if_false, ite_true, ite_false, true_and, and_true, List.mem_cons, List.not_mem_nil, or_false, false_or, or_self, List.length_cons, List.length_nil, InR_t, InL_t, z_ix_t, mI_s1, mI_s2, ↓brT, ↓brF, ↓brT', ↓brF', mL_sI, mR_sI, mK_sI, mS_sI, mI_sL, mL_s1, mL_s2, mR_sL, mK_sL, mS_sL, mI_sR, mL_sR, mR_s1, mR_s2, mK_sR, mS_sR, mA_s1, mA_s2, mL_sA, mR_sA, mK_sA, mS_sA, ix_n, ix_a, ix_m, ix_s, z_sw, z_stop, forall_const, true_implies, false_implies, imp_self, implies_true, not_true_eq_false, not_false_eq_true, ne_eq, eq_self, Option.some.injEq, reduceCtorEq, Nat.reduceAdd, Nat.reduceSub, Nat.reduceMul, Nat.reduceEqDiff, Nat.reduceLT, Nat.reduceLeDiff, Int.reduceAdd, Int.reduceMul, Int.reduceSub, Int.reduceNeg, Int.reduceToNat, Int.reduceLT, Int.reduceLE, Int.reduceEq, ↓reduceIte, List.reverse_cons, Option.toList, List.cons_append, List.nil_append, vI_inj, vL_inj, vO_inj, rI, rL, rO, rV, mI_sQ, mL_sQ, mK_sQ, mS_sQ, mQ_s1, mQ_s2, tlX5_parseBound, tkX5_parseBound, o_aload, o_dup, o_getI, o_iadd, o_ic, o_iceq, o_icne, o_ifeq, o_ifne, o_iload, o_istore, o_putI, o_vret, k0, sI_sA, e11, up]
      try simp +contextual (disch := omega) only [impF, impT, and_true, true_and, implies_true, not_false_eq_true, not_true_eq_false]
      refine x_callV (by decide +kernel) cv_X5_127 (sp_highEnd l G h (up g' 10 m1) s e v d k0 (by rw [up_n _ _ (by decide)]; exact q12) (by rw [up_n _ _ (by decide)]; exact q13) (by unfold InR; omega) o2 (by omega) heq 2 (by omega)) k0 (by omega) rfl (by omega) (by omega) rfl (Nat.le_of_ble_eq_true rfl) ?_
      rintro r h' ⟨rfl, rfl⟩
      rw [hhw]
      refine x_min (by decide +kernel) cv_X5_130 (by unfold InR; omega) (by unfold InR; omega) (Nat.le_of_ble_eq_true rfl) ?_
      generalize hm2 : (if hi < f 11 then hi else f 11) = m2
      refine z_run1 tsX5_parseBound [] 30 ?_
      simp (maxSteps := 1000000) -implicitDefEqProofs +contextual (disch := omega) only [z_wp_t, z_wp_u, ↓pI_e, ↓pL_e, ↓pO_e, ↓pR_e, ↓p1_I, ↓p1_O, z_gl, z_st1, z_st2, z_nl_I, z_nl_O, z_nl_J, z_nl_L, if_true, if_false, ite_true, ite_false, true_and, and_true, List.mem_cons, List.not_mem_nil, or_false, false_or, or_self, List.length_cons, List.length_nil, InR_t, InL_t, z_ix_t, mI_s1, mI_s2, ↓brT, ↓brF, ↓brT', ↓brF', mL_sI, mR_sI, mK_sI, mS_sI, mI_sL, mL_s1, mL_s2, mR_sL, mK_sL, mS_sL, mI_sR, mL_sR, mR_s1, mR_s2, mK_sR, mS_sR, mA_s1, mA_s2, mL_sA, mR_sA, mK_sA, mS_sA, ix_n, ix_a, ix_m, ix_s, z_sw, z_stop, forall_const, true_implies, false_implies, imp_self, implies_true, not_true_eq_false, not_false_eq_true, ne_eq, eq_self, Option.some.injEq, reduceCtorEq, Nat.reduceAdd, Nat.reduceSub, Nat.reduceMul, Nat.reduceEqDiff, Nat.reduceLT, Nat.reduceLeDiff, Int.reduceAdd, Int.reduceMul, Int.reduceSub, Int.reduceNeg, Int.reduceToNat, Int.reduceLT, Int.reduceLE, Int.reduceEq, ↓reduceIte, List.reverse_cons, Option.toList, List.cons_append, List.nil_append, vI_inj, vL_inj, vO_inj, rI, rL, rO, rV, mI_sQ, mL_sQ, mK_sQ, mS_sQ, mQ_s1, mQ_s2, tlX5_parseBound, tkX5_parseBound, o_aload, o_dup, o_getI, o_iadd, o_ic, o_iceq, o_icne, o_ifeq, o_ifne, o_iload, o_istore, o_putI, o_vret, k0, sI_sA]
      try simp +contextual (disch := omega) only [impF, impT, and_true, true_and, implies_true, not_false_eq_true, not_true_eq_false]
      rw [← hQ]
      refine ⟨rfl, _, rfl, fun k a b c d e f => ?_, ?_, ?_, fun _ => ⟨?_, ?_⟩⟩
      · rw [up_n _ _ (by omega), up_n _ _ (by omega)]
        exact hk k a b e f
      · rw [up_n _ _ (by decide), up_n _ _ (by decide)]; exact q2
      · rw [up_n _ _ (by decide), up_n _ _ (by decide), q3]; rfl
      · rw [up_n _ _ (by decide), up_s, ← hm1]
      · rw [up_s, ← hm2]
  have blank : ∀ (g : Nat → Int) (j : Nat) (e : Int), f4 f g → g 2 = (j : Int) → g 3 = 0 → j ≤ n → sk t n j = bAt t n i → e = bEq t n i → ck t n i ≠ 42 → z_X l G mtX5_parseBound lv 0 0 (bQ h f (pBnd t n i)) 0 0 (sA h 85 g) 74 [vR 85, vI (ck t n i), vI e] [] := by
    intro g j e hg h2 h3 hj hs he hst
    have hTg := hT0.up (g := g) (hg 1 (by decide) (by decide) (by decide) (by decide))
    have hv := ver (up g 2 (sk t n j : Nat)) (hg.up (by omega)) (by rw [up_s, hs]) (by rw [up_n _ _ (by decide)]; exact h3) hst
    rw [he]
    generalize hQ : bQ h f (pBnd t n i) = QQ at hv ⊢
    refine z_run1 tsX5_parseBound [] 30 ?_
    simp (maxSteps := 1000000) -implicitDefEqProofs +contextual (disch := omega) only [z_wp_t, z_wp_u, ↓pI_e, ↓pL_e, ↓pO_e, ↓pR_e, ↓p1_I, ↓p1_O, z_gl, z_st1, z_st2, z_nl_I, z_nl_O, z_nl_J, z_nl_L, if_true, if_false, ite_true, ite_false, true_and, and_true, List.mem_cons, List.not_mem_nil, or_false, false_or, or_self, List.length_cons, List.length_nil, InR_t, InL_t, z_ix_t, mI_s1, mI_s2, ↓brT, ↓brF, ↓brT', ↓brF', mL_sI, mR_sI, mK_sI, mS_sI, mI_sL, mL_s1, mL_s2, mR_sL, mK_sL, mS_sL, mI_sR, mL_sR, mR_s1, mR_s2, mK_sR, mS_sR, mA_s1, mA_s2, mL_sA, mR_sA, mK_sA, mS_sA, ix_n, ix_a, ix_m, ix_s, z_sw, z_stop, forall_const, true_implies, false_implies, imp_self, implies_true, not_true_eq_false, not_false_eq_true, ne_eq, eq_self, Option.some.injEq, reduceCtorEq, Nat.reduceAdd, Nat.reduceSub, Nat.reduceMul, Nat.reduceEqDiff, Nat.reduceLT, Nat.reduceLeDiff, Int.reduceAdd, Int.reduceMul, Int.reduceSub, Int.reduceNeg, Int.reduceToNat, Int.reduceLT, Int.reduceLE, Int.reduceEq, ↓reduceIte, List.reverse_cons, Option.toList, List.cons_append, List.nil_append, vI_inj, vL_inj, vO_inj, rI, rL, rO, rV, mI_sQ, mL_sQ, mK_sQ, mS_sQ, mQ_s1, mQ_s2, tlX5_parseBound, tkX5_parseBound, o_aload, o_dup, o_getI, o_iadd, o_ic, o_iceq, o_icne, o_ifeq, o_ifne, o_iload, o_istore, o_putI, o_vret, k0]
    try simp +contextual (disch := omega) only [impF, impT, and_true, true_and, implies_true, not_false_eq_true, not_true_eq_false]
    refine x_callV (by decide +kernel) cv_X5_87 (sp_skip l G h g t n j hTg h2 hj 1 (by omega)) k0 (by omega) rfl (by omega) (by omega) rfl (Nat.le_of_ble_eq_true rfl) ?_
    rintro r h' ⟨rfl, rfl⟩
    exact hv
  refine x_enter [vR 85, vJ, vJ] (by decide +kernel) (by omega) rfl (Nat.le_of_ble_eq_true rfl) ?_
  generalize hQ : bQ h f (pBnd t n i) = QQ at ver blank ⊢
  refine z_run1 tsX5_parseBound [] 30 ?_
  simp (maxSteps := 1000000) -implicitDefEqProofs +contextual (disch := omega) only [z_wp_t, z_wp_u, ↓pI_e, ↓pL_e, ↓pO_e, ↓pR_e, ↓p1_I, ↓p1_O, z_gl, z_st1, z_st2, z_nl_I, z_nl_O, z_nl_J, z_nl_L, if_true, if_false, ite_true, ite_false, true_and, and_true, List.mem_cons, List.not_mem_nil, or_false, false_or, or_self, List.length_cons, List.length_nil, InR_t, InL_t, z_ix_t, mI_s1, mI_s2, ↓brT, ↓brF, ↓brT', ↓brF', mL_sI, mR_sI, mK_sI, mS_sI, mI_sL, mL_s1, mL_s2, mR_sL, mK_sL, mS_sL, mI_sR, mL_sR, mR_s1, mR_s2, mK_sR, mS_sR, mA_s1, mA_s2, mL_sA, mR_sA, mK_sA, mS_sA, ix_n, ix_a, ix_m, ix_s, z_sw, z_stop, forall_const, true_implies, false_implies, imp_self, implies_true, not_true_eq_false, not_false_eq_true, ne_eq, eq_self, Option.some.injEq, reduceCtorEq, Nat.reduceAdd, Nat.reduceSub, Nat.reduceMul, Nat.reduceEqDiff, Nat.reduceLT, Nat.reduceLeDiff, Int.reduceAdd, Int.reduceMul, Int.reduceSub, Int.reduceNeg, Int.reduceToNat, Int.reduceLT, Int.reduceLE, Int.reduceEq, ↓reduceIte, List.reverse_cons, Option.toList, List.cons_append, List.nil_append, vI_inj, vL_inj, vO_inj, rI, rL, rO, rV, mI_sQ, mL_sQ, mK_sQ, mS_sQ, mQ_s1, mQ_s2, tlX5_parseBound, tkX5_parseBound, o_aload, o_dup, o_getI, o_iadd, o_ic, o_iceq, o_icne, o_ifeq, o_ifne, o_iload, o_istore, o_putI, o_vret, k0, hf3]
  try simp +contextual (disch := omega) only [impF, impT, and_true, true_and, implies_true, not_false_eq_true, not_true_eq_false]
  refine x_callV (by decide +kernel) cv_X5_52 (sp_take l G h f t n i 42 hT0 hi hi40 hf3 (by omega) 2 (by omega)) k0 (by omega) rfl (by omega) (by omega) rfl (Nat.le_of_ble_eq_true rfl) ?_
  intro r h' hq
  by_cases hst : ck t n i = 42
  · rw [if_pos hst] at hq
    obtain ⟨rfl, rfl⟩ := hq
    refine z_run1 tsX5_parseBound [] 30 ?_
    simp (maxSteps := 1000000) -implicitDefEqProofs +contextual (disch := omega) only [z_wp_t, z_wp_u, ↓pI_e, ↓pL_e, ↓pO_e, ↓pR_e, ↓p1_I, ↓p1_O, z_gl, z_st1, z_st2, z_nl_I, z_nl_O, z_nl_J, z_nl_L, if_true, if_false, ite_true, ite_false, true_and, and_true, List.mem_cons, List.not_mem_nil, or_false, false_or, or_self, List.length_cons, List.length_nil, InR_t, InL_t, z_ix_t, mI_s1, mI_s2, ↓brT, ↓brF, ↓brT', ↓brF', mL_sI, mR_sI, mK_sI, mS_sI, mI_sL, mL_s1, mL_s2, mR_sL, mK_sL, mS_sL, mI_sR, mL_sR, mR_s1, mR_s2, mK_sR, mS_sR, mA_s1, mA_s2, mL_sA, mR_sA, mK_sA, mS_sA, ix_n, ix_a, ix_m, ix_s, z_sw, z_stop, forall_const, true_implies, false_implies, imp_self, implies_true, not_true_eq_false, not_false_eq_true, ne_eq, eq_self, Option.some.injEq, reduceCtorEq, Nat.reduceAdd, Nat.reduceSub, Nat.reduceMul, Nat.reduceEqDiff, Nat.reduceLT, Nat.reduceLeDiff, Int.reduceAdd, Int.reduceMul, Int.reduceSub, Int.reduceNeg, Int.reduceToNat, Int.reduceLT, Int.reduceLE, Int.reduceEq, ↓reduceIte, List.reverse_cons, Option.toList, List.cons_append, List.nil_append, vI_inj, vL_inj, vO_inj, rI, rL, rO, rV, mI_sQ, mL_sQ, mK_sQ, mS_sQ, mQ_s1, mQ_s2, tlX5_parseBound, tkX5_parseBound, o_aload, o_dup, o_getI, o_iadd, o_ic, o_iceq, o_icne, o_ifeq, o_ifne, o_iload, o_istore, o_putI, o_vret, k0]
    try simp +contextual (disch := omega) only [impF, impT, and_true, true_and, implies_true, not_false_eq_true, not_true_eq_false]
    rw [← hQ]
    unfold pBnd
    rw [if_pos hst]
    refine ⟨rfl, _, rfl, fun k a b c d e f => by rw [up_n _ _ (by omega)], by rw [up_s], by rw [up_n _ _ (by decide), hf3]; rfl, fun _ => ⟨?_, ?_⟩⟩
    · rw [up_n _ _ (by decide), if_neg (by simp only; omega)]
    · rw [up_n _ _ (by decide), if_neg (by simp only; omega)]
  · rw [if_neg hst] at hq
    obtain ⟨rfl, rfl⟩ := hq
    refine z_run1 tsX5_parseBound [] 30 ?_
    simp (maxSteps := 1000000) -implicitDefEqProofs +contextual (disch := omega) only [z_wp_t, z_wp_u, ↓pI_e, ↓pL_e, ↓pO_e, ↓pR_e, ↓p1_I, ↓p1_O, z_gl, z_st1, z_st2, z_nl_I, z_nl_O, z_nl_J, z_nl_L, if_true, if_false, ite_true, ite_false, true_and, and_true, List.mem_cons, List.not_mem_nil, or_false, false_or, or_self, List.length_cons, List.length_nil, InR_t, InL_t, z_ix_t, mI_s1, mI_s2, ↓brT, ↓brF, ↓brT', ↓brF', mL_sI, mR_sI, mK_sI, mS_sI, mI_sL, mL_s1, mL_s2, mR_sL, mK_sL, mS_sL, mI_sR, mL_sR, mR_s1, mR_s2, mK_sR, mS_sR, mA_s1, mA_s2, mL_sA, mR_sA, mK_sA, mS_sA, ix_n, ix_a, ix_m, ix_s, z_sw, z_stop, forall_const, true_implies, false_implies, imp_self, implies_true, not_true_eq_false, not_false_eq_true, ne_eq, eq_self, Option.some.injEq, reduceCtorEq, Nat.reduceAdd, Nat.reduceSub, Nat.reduceMul, Nat.reduceEqDiff, Nat.reduceLT, Nat.reduceLeDiff, Int.reduceAdd, Int.reduceMul, Int.reduceSub, Int.reduceNeg, Int.reduceToNat, Int.reduceLT, Int.reduceLE, Int.reduceEq, ↓reduceIte, List.reverse_cons, Option.toList, List.cons_append, List.nil_append, vI_inj, vL_inj, vO_inj, rI, rL, rO, rV, mI_sQ, mL_sQ, mK_sQ, mS_sQ, mQ_s1, mQ_s2, tlX5_parseBound, tkX5_parseBound, o_aload, o_dup, o_getI, o_iadd, o_ic, o_iceq, o_icne, o_ifeq, o_ifne, o_iload, o_istore, o_putI, o_vret, k0]
    try simp +contextual (disch := omega) only [impF, impT, and_true, true_and, implies_true, not_false_eq_true, not_true_eq_false]
    refine x_callV (by decide +kernel) cv_X5_68 (sp_peek l G h f t n i hT0 hi (by omega) 1 (by omega)) k0 (by omega) rfl (by omega) (by omega) rfl (Nat.le_of_ble_eq_true rfl) ?_
    rintro r h' ⟨rfl, rfl⟩
    refine z_run1 tsX5_parseBound [] 30 ?_
    simp (maxSteps := 1000000) -implicitDefEqProofs +contextual (disch := omega) only [z_wp_t, z_wp_u, ↓pI_e, ↓pL_e, ↓pO_e, ↓pR_e, ↓p1_I, ↓p1_O, z_gl, z_st1, z_st2, z_nl_I, z_nl_O, z_nl_J, z_nl_L, if_true, if_false, ite_true, ite_false, true_and, and_true, List.mem_cons, List.not_mem_nil, or_false, false_or, or_self, List.length_cons, List.length_nil, InR_t, InL_t, z_ix_t, mI_s1, mI_s2, ↓brT, ↓brF, ↓brT', ↓brF', mL_sI, mR_sI, mK_sI, mS_sI, mI_sL, mL_s1, mL_s2, mR_sL, mK_sL, mS_sL, mI_sR, mL_sR, mR_s1, mR_s2, mK_sR, mS_sR, mA_s1, mA_s2, mL_sA, mR_sA, mK_sA, mS_sA, ix_n, ix_a, ix_m, ix_s, z_sw, z_stop, forall_const, true_implies, false_implies, imp_self, implies_true, not_true_eq_false, not_false_eq_true, ne_eq, eq_self, Option.some.injEq, reduceCtorEq, Nat.reduceAdd, Nat.reduceSub, Nat.reduceMul, Nat.reduceEqDiff, Nat.reduceLT, Nat.reduceLeDiff, Int.reduceAdd, Int.reduceMul, Int.reduceSub, Int.reduceNeg, Int.reduceToNat, Int.reduceLT, Int.reduceLE, Int.reduceEq, ↓reduceIte, List.reverse_cons, Option.toList, List.cons_append, List.nil_append, vI_inj, vL_inj, vO_inj, rI, rL, rO, rV, mI_sQ, mL_sQ, mK_sQ, mS_sQ, mQ_s1, mQ_s2, tlX5_parseBound, tkX5_parseBound, o_aload, o_dup, o_getI, o_iadd, o_ic, o_iceq, o_icne, o_ifeq, o_ifne, o_iload, o_istore, o_putI, o_vret, k0]
    try simp +contextual (disch := omega) only [impF, impT, and_true, true_and, implies_true, not_false_eq_true, not_true_eq_false]
    refine x_callS (by decide +kernel) cv_X5_109 (sp_isSign l G _ (ck t n i) (by unfold InR; omega) 1 (by omega)) (by omega) rfl (by omega) (by omega) rfl (Nat.le_of_ble_eq_true rfl) ?_
    rintro r h' ⟨rfl, rfl⟩
    cases hsg : sg (ck t n i)
    · simp only [Bool.false_eq_true, if_false]
      have hno : ¬ (ck t n i = 62 ∨ ck t n i = 60) := by
        intro q
        rcases q with q | q <;> rw [q] at hsg <;> revert hsg <;> decide
      have he : bEq t n i = 0 := by unfold bEq; rw [if_neg (fun q => hno q.1)]
      have ha : bAt t n i = i := by unfold bAt; rw [hsg]; rfl
      have hv := ver f f4.rf (by rw [ha]; exact hi) hf3 hst
      rw [he] at hv
      refine z_run1 tsX5_parseBound [78] 30 ?_
      simp (maxSteps := 1000000) -implicitDefEqProofs +contextual (disch := omega) only [z_wp_t, z_wp_u, ↓pI_e, ↓pL_e, ↓pO_e, ↓pR_e, ↓p1_I, ↓p1_O, z_gl, z_st1, z_st2, z_nl_I, z_nl_O, z_nl_J, z_nl_L, if_true, if_false, ite_true, ite_false, true_and, and_true, List.mem_cons, List.not_mem_nil, or_false, false_or, or_self, List.length_cons, List.length_nil, InR_t, InL_t, z_ix_t, mI_s1, mI_s2, ↓brT, ↓brF, ↓brT', ↓brF', mL_sI, mR_sI, mK_sI, mS_sI, mI_sL, mL_s1, mL_s2, mR_sL, mK_sL, mS_sL, mI_sR, mL_sR, mR_s1, mR_s2, mK_sR, mS_sR, mA_s1, mA_s2, mL_sA, mR_sA, mK_sA, mS_sA, ix_n, ix_a, ix_m, ix_s, z_sw, z_stop, forall_const, true_implies, false_implies, imp_self, implies_true, not_true_eq_false, not_false_eq_true, ne_eq, eq_self, Option.some.injEq, reduceCtorEq, Nat.reduceAdd, Nat.reduceSub, Nat.reduceMul, Nat.reduceEqDiff, Nat.reduceLT, Nat.reduceLeDiff, Int.reduceAdd, Int.reduceMul, Int.reduceSub, Int.reduceNeg, Int.reduceToNat, Int.reduceLT, Int.reduceLE, Int.reduceEq, ↓reduceIte, List.reverse_cons, Option.toList, List.cons_append, List.nil_append, vI_inj, vL_inj, vO_inj, rI, rL, rO, rV, mI_sQ, mL_sQ, mK_sQ, mS_sQ, mQ_s1, mQ_s2, tlX5_parseBound, tkX5_parseBound, o_aload, o_dup, o_getI, o_iadd, o_ic, o_iceq, o_icne, o_ifeq, o_ifne, o_iload, o_istore, o_putI, o_vret, k0]
      try simp +contextual (disch := omega) only [impF, impT, and_true, true_and, implies_true, not_false_eq_true, not_true_eq_false]
      exact hv
    · simp only [if_true]
      have hin := ck_lt (t := t) (n := n) (i := i) (fun q => by rw [q] at hsg; revert hsg; decide)
      have hTg := hT0.up (g := up f 2 ((i : Int) + 1)) (by rw [up_n _ _ (by decide)])
      by_cases hlg : ck t n i = 62 ∨ ck t n i = 60
      · have hgo : z_X l G mtX5_parseBound lv 0 0 (QQ) 0 0 (sA h 85 (up f 2 ((i : Int) + 1))) 53 [vR 85, vI (ck t n i), vI 0] [] := by
          refine z_run1 tsX5_parseBound [] 30 ?_
          simp (maxSteps := 1000000) -implicitDefEqProofs +contextual (disch := omega) only [z_wp_t, z_wp_u, ↓pI_e, ↓pL_e, ↓pO_e, ↓pR_e, ↓p1_I, ↓p1_O, z_gl, z_st1, z_st2, z_nl_I, z_nl_O, z_nl_J, z_nl_L, if_true, if_false, ite_true, ite_false, true_and, and_true, List.mem_cons, List.not_mem_nil, or_false, false_or, or_self, List.length_cons, List.length_nil, InR_t, InL_t, z_ix_t, mI_s1, mI_s2, ↓brT, ↓brF, ↓brT', ↓brF', mL_sI, mR_sI, mK_sI, mS_sI, mI_sL, mL_s1, mL_s2, mR_sL, mK_sL, mS_sL, mI_sR, mL_sR, mR_s1, mR_s2, mK_sR, mS_sR, mA_s1, mA_s2, mL_sA, mR_sA, mK_sA, mS_sA, ix_n, ix_a, ix_m, ix_s, z_sw, z_stop, forall_const, true_implies, false_implies, imp_self, implies_true, not_true_eq_false, not_false_eq_true, ne_eq, eq_self, Option.some.injEq, reduceCtorEq, Nat.reduceAdd, Nat.reduceSub, Nat.reduceMul, Nat.reduceEqDiff, Nat.reduceLT, Nat.reduceLeDiff, Int.reduceAdd, Int.reduceMul, Int.reduceSub, Int.reduceNeg, Int.reduceToNat, Int.reduceLT, Int.reduceLE, Int.reduceEq, ↓reduceIte, List.reverse_cons, Option.toList, List.cons_append, List.nil_append, vI_inj, vL_inj, vO_inj, rI, rL, rO, rV, mI_sQ, mL_sQ, mK_sQ, mS_sQ, mQ_s1, mQ_s2, tlX5_parseBound, tkX5_parseBound, o_aload, o_dup, o_getI, o_iadd, o_ic, o_iceq, o_icne, o_ifeq, o_ifne, o_iload, o_istore, o_putI, o_vret, k0]
          try simp +contextual (disch := omega) only [impF, impT, and_true, true_and, implies_true, not_false_eq_true, not_true_eq_false]
          refine x_callV (by decide +kernel) cv_X5_68 (sp_peek l G h (up f 2 ((i : Int) + 1)) t n (i + 1) hTg (by rw [up_s]; omega) (by omega) 1 (by omega)) k0 (by omega) rfl (by omega) (by omega) rfl (Nat.le_of_ble_eq_true rfl) ?_
          rintro r h' ⟨rfl, rfl⟩
          by_cases h61 : ck t n (i + 1) = 61
          · have hin2 := ck_lt (t := t) (n := n) (i := i + 1) (by omega)
            have he : bEq t n i = 1 := by unfold bEq; rw [if_pos ⟨hlg, h61⟩]
            have hbl := blank (up f 2 ((i : Int) + 1 + 1)) (i + 2) 1 (f4.rf.up (by omega)) (by rw [up_s]; omega) (by rw [up_n _ _ (by decide)]; exact hf3) (by omega) (by unfold bAt; rw [hsg, he]; rfl) he.symm hst
            refine z_run1 tsX5_parseBound [74] 30 ?_
            simp (maxSteps := 1000000) -implicitDefEqProofs +contextual (disch := omega) only [z_wp_t, z_wp_u, ↓pI_e, ↓pL_e, ↓pO_e, ↓pR_e, ↓p1_I, ↓p1_O, z_gl, z_st1, z_st2, z_nl_I, z_nl_O, z_nl_J, z_nl_L, if_true, if_false, ite_true, ite_false, true_and, and_true, List.mem_cons, List.not_mem_nil, or_false, false_or, or_self, List.length_cons, List.length_nil, InR_t, InL_t, z_ix_t, mI_s1, mI_s2, ↓brT, ↓brF, ↓brT', ↓brF', mL_sI, mR_sI, mK_sI, mS_sI, mI_sL, mL_s1, mL_s2, mR_sL, mK_sL, mS_sL, mI_sR, mL_sR, mR_s1, mR_s2, mK_sR, mS_sR, mA_s1, mA_s2, mL_sA, mR_sA, mK_sA, mS_sA, ix_n, ix_a, ix_m, ix_s, z_sw, z_stop, forall_const, true_implies, false_implies, imp_self, implies_true, not_true_eq_false, not_false_eq_true, ne_eq, eq_self, Option.some.injEq, reduceCtorEq, Nat.reduceAdd, Nat.reduceSub, Nat.reduceMul, Nat.reduceEqDiff, Nat.reduceLT, Nat.reduceLeDiff, Int.reduceAdd, Int.reduceMul, Int.reduceSub, Int.reduceNeg, Int.reduceToNat, Int.reduceLT, Int.reduceLE, Int.reduceEq, ↓reduceIte, List.reverse_cons, Option.toList, List.cons_append, List.nil_append, vI_inj, vL_inj, vO_inj, rI, rL, rO, rV, mI_sQ, mL_sQ, mK_sQ, mS_sQ, mQ_s1, mQ_s2, tlX5_parseBound, tkX5_parseBound, o_aload, o_dup, o_getI, o_iadd, o_ic, o_iceq, o_icne, o_ifeq, o_ifne, o_iload, o_istore, o_putI, o_vret, k0, sI_sA, up_s, up_up]
            try simp +contextual (disch := omega) only [impF, impT, and_true, true_and, implies_true, not_false_eq_true, not_true_eq_false]
            exact hbl
          · have he : bEq t n i = 0 := by unfold bEq; rw [if_neg (fun q => h61 q.2)]
            have hbl := blank (up f 2 ((i : Int) + 1)) (i + 1) 0 (f4.rf.up (by omega)) (by rw [up_s]; omega) (by rw [up_n _ _ (by decide)]; exact hf3) (by omega) (by unfold bAt; rw [hsg, he]; rfl) he.symm hst
            refine z_run1 tsX5_parseBound [74] 30 ?_
            simp (maxSteps := 1000000) -implicitDefEqProofs +contextual (disch := omega) only [z_wp_t, z_wp_u, ↓pI_e, ↓pL_e, ↓pO_e, ↓pR_e, ↓p1_I, ↓p1_O, z_gl, z_st1, z_st2, z_nl_I, z_nl_O, z_nl_J, z_nl_L, if_true, if_false, ite_true, ite_false, true_and, and_true, List.mem_cons, List.not_mem_nil, or_false, false_or, or_self, List.length_cons, List.length_nil, InR_t, InL_t, z_ix_t, mI_s1, mI_s2, ↓brT, ↓brF, ↓brT', ↓brF', mL_sI, mR_sI, mK_sI, mS_sI, mI_sL, mL_s1, mL_s2, mR_sL, mK_sL, mS_sL, mI_sR, mL_sR, mR_s1, mR_s2, mK_sR, mS_sR, mA_s1, mA_s2, mL_sA, mR_sA, mK_sA, mS_sA, ix_n, ix_a, ix_m, ix_s, z_sw, z_stop, forall_const, true_implies, false_implies, imp_self, implies_true, not_true_eq_false, not_false_eq_true, ne_eq, eq_self, Option.some.injEq, reduceCtorEq, Nat.reduceAdd, Nat.reduceSub, Nat.reduceMul, Nat.reduceEqDiff, Nat.reduceLT, Nat.reduceLeDiff, Int.reduceAdd, Int.reduceMul, Int.reduceSub, Int.reduceNeg, Int.reduceToNat, Int.reduceLT, Int.reduceLE, Int.reduceEq, ↓reduceIte, List.reverse_cons, Option.toList, List.cons_append, List.nil_append, vI_inj, vL_inj, vO_inj, rI, rL, rO, rV, mI_sQ, mL_sQ, mK_sQ, mS_sQ, mQ_s1, mQ_s2, tlX5_parseBound, tkX5_parseBound, o_aload, o_dup, o_getI, o_iadd, o_ic, o_iceq, o_icne, o_ifeq, o_ifne, o_iload, o_istore, o_putI, o_vret, k0]
            try simp +contextual (disch := omega) only [impF, impT, and_true, true_and, implies_true, not_false_eq_true, not_true_eq_false]
            exact hbl
        rcases hlg with hlg | hlg
        · refine z_run1 tsX5_parseBound [53] 30 ?_
          simp (maxSteps := 1000000) -implicitDefEqProofs +contextual (disch := omega) only [z_wp_t, z_wp_u, ↓pI_e, ↓pL_e, ↓pO_e, ↓pR_e, ↓p1_I, ↓p1_O, z_gl, z_st1, z_st2, z_nl_I, z_nl_O, z_nl_J, z_nl_L, if_true, if_false, ite_true, ite_false, true_and, and_true, List.mem_cons, List.not_mem_nil, or_false, false_or, or_self, List.length_cons, List.length_nil, InR_t, InL_t, z_ix_t, mI_s1, mI_s2, ↓brT, ↓brF, ↓brT', ↓brF', mL_sI, mR_sI, mK_sI, mS_sI, mI_sL, mL_s1, mL_s2, mR_sL, mK_sL, mS_sL, mI_sR, mL_sR, mR_s1, mR_s2, mK_sR, mS_sR, mA_s1, mA_s2, mL_sA, mR_sA, mK_sA, mS_sA, ix_n, ix_a, ix_m, ix_s, z_sw, z_stop, forall_const, true_implies, false_implies, imp_self, implies_true, not_true_eq_false, not_false_eq_true, ne_eq, eq_self, Option.some.injEq, reduceCtorEq, Nat.reduceAdd, Nat.reduceSub, Nat.reduceMul, Nat.reduceEqDiff, Nat.reduceLT, Nat.reduceLeDiff, Int.reduceAdd, Int.reduceMul, Int.reduceSub, Int.reduceNeg, Int.reduceToNat, Int.reduceLT, Int.reduceLE, Int.reduceEq, ↓reduceIte, List.reverse_cons, Option.toList, List.cons_append, List.nil_append, vI_inj, vL_inj, vO_inj, rI, rL, rO, rV, mI_sQ, mL_sQ, mK_sQ, mS_sQ, mQ_s1, mQ_s2, tlX5_parseBound, tkX5_parseBound, o_aload, o_dup, o_getI, o_iadd, o_ic, o_iceq, o_icne, o_ifeq, o_ifne, o_iload, o_istore, o_putI, o_vret, k0, hi, sI_sA]
          try simp +contextual (disch := omega) only [impF, impT, and_true, true_and, implies_true, not_false_eq_true, not_true_eq_false]
          exact hgo
        · refine z_run1 tsX5_parseBound [53] 30 ?_
          simp (maxSteps := 1000000) -implicitDefEqProofs +contextual (disch := omega) only [z_wp_t, z_wp_u, ↓pI_e, ↓pL_e, ↓pO_e, ↓pR_e, ↓p1_I, ↓p1_O, z_gl, z_st1, z_st2, z_nl_I, z_nl_O, z_nl_J, z_nl_L, if_true, if_false, ite_true, ite_false, true_and, and_true, List.mem_cons, List.not_mem_nil, or_false, false_or, or_self, List.length_cons, List.length_nil, InR_t, InL_t, z_ix_t, mI_s1, mI_s2, ↓brT, ↓brF, ↓brT', ↓brF', mL_sI, mR_sI, mK_sI, mS_sI, mI_sL, mL_s1, mL_s2, mR_sL, mK_sL, mS_sL, mI_sR, mL_sR, mR_s1, mR_s2, mK_sR, mS_sR, mA_s1, mA_s2, mL_sA, mR_sA, mK_sA, mS_sA, ix_n, ix_a, ix_m, ix_s, z_sw, z_stop, forall_const, true_implies, false_implies, imp_self, implies_true, not_true_eq_false, not_false_eq_true, ne_eq, eq_self, Option.some.injEq, reduceCtorEq, Nat.reduceAdd, Nat.reduceSub, Nat.reduceMul, Nat.reduceEqDiff, Nat.reduceLT, Nat.reduceLeDiff, Int.reduceAdd, Int.reduceMul, Int.reduceSub, Int.reduceNeg, Int.reduceToNat, Int.reduceLT, Int.reduceLE, Int.reduceEq, ↓reduceIte, List.reverse_cons, Option.toList, List.cons_append, List.nil_append, vI_inj, vL_inj, vO_inj, rI, rL, rO, rV, mI_sQ, mL_sQ, mK_sQ, mS_sQ, mQ_s1, mQ_s2, tlX5_parseBound, tkX5_parseBound, o_aload, o_dup, o_getI, o_iadd, o_ic, o_iceq, o_icne, o_ifeq, o_ifne, o_iload, o_istore, o_putI, o_vret, k0, hi, sI_sA]
          try simp +contextual (disch := omega) only [impF, impT, and_true, true_and, implies_true, not_false_eq_true, not_true_eq_false]
          exact hgo
      · have he : bEq t n i = 0 := by unfold bEq; rw [if_neg (fun q => hlg q.1)]
        have hbl := blank (up f 2 ((i : Int) + 1)) (i + 1) 0 (f4.rf.up (by omega)) (by rw [up_s]; omega) (by rw [up_n _ _ (by decide)]; exact hf3) (by omega) (by unfold bAt; rw [hsg, he]; rfl) he.symm hst
        have n1 : ck t n i ≠ 62 := fun q => hlg (Or.inl q)
        have n2 : ck t n i ≠ 60 := fun q => hlg (Or.inr q)
        refine z_run1 tsX5_parseBound [74] 30 ?_
        simp (maxSteps := 1000000) -implicitDefEqProofs +contextual (disch := omega) only [z_wp_t, z_wp_u, ↓pI_e, ↓pL_e, ↓pO_e, ↓pR_e, ↓p1_I, ↓p1_O, z_gl, z_st1, z_st2, z_nl_I, z_nl_O, z_nl_J, z_nl_L, if_true, if_false, ite_true, ite_false, true_and, and_true, List.mem_cons, List.not_mem_nil, or_false, false_or, or_self, List.length_cons, List.length_nil, InR_t, InL_t, z_ix_t, mI_s1, mI_s2, ↓brT, ↓brF, ↓brT', ↓brF', mL_sI, mR_sI, mK_sI, mS_sI, mI_sL, mL_s1, mL_s2, mR_sL, mK_sL, mS_sL, mI_sR, mL_sR, mR_s1, mR_s2, mK_sR, mS_sR, mA_s1, mA_s2, mL_sA, mR_sA, mK_sA, mS_sA, ix_n, ix_a, ix_m, ix_s, z_sw, z_stop, forall_const, true_implies, false_implies, imp_self, implies_true, not_true_eq_false, not_false_eq_true, ne_eq, eq_self, Option.some.injEq, reduceCtorEq, Nat.reduceAdd, Nat.reduceSub, Nat.reduceMul, Nat.reduceEqDiff, Nat.reduceLT, Nat.reduceLeDiff, Int.reduceAdd, Int.reduceMul, Int.reduceSub, Int.reduceNeg, Int.reduceToNat, Int.reduceLT, Int.reduceLE, Int.reduceEq, ↓reduceIte, List.reverse_cons, Option.toList, List.cons_append, List.nil_append, vI_inj, vL_inj, vO_inj, rI, rL, rO, rV, mI_sQ, mL_sQ, mK_sQ, mS_sQ, mQ_s1, mQ_s2, tlX5_parseBound, tkX5_parseBound, o_aload, o_dup, o_getI, o_iadd, o_ic, o_iceq, o_icne, o_ifeq, o_ifne, o_iload, o_istore, o_putI, o_vret, k0, hi, sI_sA]
        try simp +contextual (disch := omega) only [impF, impT, and_true, true_and, implies_true, not_false_eq_true, not_true_eq_false]
        exact hbl
