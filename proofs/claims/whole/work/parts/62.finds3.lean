/-! the reference: finds -/
def FH (h h1 : zH) : Prop := Fr (fun c => c = 93 ∨ (103 ≤ c ∧ c ≤ 105)) h h1 ∧ gR h1 = gR h ∧ (∀ k, k ≠ 16 → k ≠ 17 → gI h1 93 k = gI h 93 k) ∧ gL h1 93 = gL h 93
theorem FH.tr {h h1 h2 : zH} (a : FH h h1) (b : FH h1 h2) : FH h h2 := ⟨a.1.tr' b.1 (fun _ q => q) (fun _ q => q), b.2.1.trans a.2.1, fun k q1 q2 => (b.2.2.1 k q1 q2).trans (a.2.2.1 k q1 q2), b.2.2.2.trans a.2.2.2⟩
theorem FH.rf {h : zH} : FH h h := ⟨Fr.rf, rfl, fun _ _ _ => rfl, rfl⟩
theorem FH.w {h : zH} {a k : Nat} {z : Int} (ha : 103 ≤ a ∧ a ≤ 105) : FH h (sI h a k z) := ⟨Fr.sI _ _ _ _ _ (Or.inr ha), rfl, fun j _ _ => mI_s2 _ _ (Or.inl (by omega)), rfl⟩
theorem fn_sh {h : zH} {A : zA} {S : Nat → Bool} {AL : Nat → Nat → Bool} (hS : ShM h) (hm : MA (gI h 94) A) (hP : PrOK h A S AL) : ∀ h1, FH h h1 → ShM h1 ∧ MA (gI h1 94) A ∧ PrOK h1 A S AL := fun h1 f1 => by
    refine ⟨hS.of f1.1.K f1.2.1, by rw [f1.1.I (by omega)]; exact hm, ?_⟩
    unfold PrOK PrR
    rw [f1.1.I (by omega), f1.1.I (by omega), f1.1.I (by omega), f1.1.I (by omega)]
    exact hP
set_option maxRecDepth 4000 in
set_option maxHeartbeats 4000000 in
theorem fn_node (l : Launch) (G : zG) (h : zH) (QQ : Option zV → zH → Prop) (M : Nat) (b : Int) (A : zA) (S : Nat → Bool) (AL : Nat → Nat → Bool) (hS : ShM h) (hm : MA (gI h 94) A) (hA : AOK A) (hP : PrOK h A S AL) (hAL : ∀ p v, p < 8 → v < 5 → AL p v = true → v ≤ aN A p) (hb : b = 0 ∨ b = 1) (hM : 1 ≤ M ∧ M ≤ 1000000) (hM1 : b = 1 → 91 ≤ M) (lv : Nat) (hlv : 4 ≤ lv) : ∀ (d p : Nat), p + d = 7 → ∀ (k : Nat) (s : Nat → Nat) (ls : List (Nat → Nat)) (n : Nat) (h1 : zH), k < 5 → FH h h1 → EnO h1 104 p s → (∀ q, q < p → s q < 5 ∧ AL q (s q) = true ∧ fitB A S s q = true) → gI h1 103 p = 4 - ((k + 1 : Nat) : Int) → JF A b n h1 ls → n < M → (∀ (h2 : zH), FH h h2 → (∀ q, q < p → gI h2 103 q = gI h1 103 q ∧ gI h2 104 q = gI h1 104 q) → gI h2 103 p = 4 - (k : Int) → JF A b n h2 (ls ++ (enum d (up s p k)).filter (PLb A S AL)) → z_X l G mtX8_finds lv 0 0 (QQ) 0 0 (h2) 24 [vR 93, vI M, vI b, vI n, vI p, vJ] []) → (∀ (h2 : zH) (bc bp : Nat), FH h h2 → (∀ q, q < p → gI h2 103 q = gI h1 103 q ∧ gI h2 104 q = gI h1 104 q) → gI h2 103 p = 4 - (k : Int) → EnO h2 104 (p + 1) (up s p k) → JF A b n h2 ls → AL p k = true → fitB A S (up s p k) p = true → gI h2 93 16 = (bc : Int) → gI h2 93 17 = (bp : Int) → (b = 1 → cbB A (up s p k) (p + 1) bc bp = true) → z_X l G mtX8_finds lv 0 0 (QQ) 0 0 (h2) 150 [vR 93, vI M, vI b, vI n, vI p, vI 1] []) → z_X l G mtX8_finds lv 0 0 (QQ) 0 0 (h1) 24 [vR 93, vI M, vI b, vI n, vI p, vJ] [] := by
  have hsh := fun h1 f1 => fn_sh hS hm hP h1 f1
  intro d p hp k s ls n h1 hk f1 hE hpre h103 hJ hnM Hskip Hgood
  obtain ⟨hS1, hm1, hP1⟩ := hsh h1 f1
  have hn6 : n < 1000000 := by omega
  have k0 := hS1.1
  have k102 := hS1.2.2.1.1
  have k103 := hS1.2.2.1.2.1
  have k104 := hS1.2.2.1.2.2.1
  have r12 := hS1.2.2.2.2.1
  have r13 := hS1.2.2.2.2.2.1
  have r14 := hS1.2.2.2.2.2.2.1
  have f2 : FH h1 (sI (sI h1 103 p (4 - (k : Int))) 104 p (opt k : Int)) := (FH.w (by omega)).tr (FH.w (by omega))
  have e2a : ∀ q, q < p → gI (sI (sI h1 103 p (4 - (k : Int))) 104 p (opt k : Int)) 103 q = gI h1 103 q ∧ gI (sI (sI h1 103 p (4 - (k : Int))) 104 p (opt k : Int)) 104 q = gI h1 104 q := fun q hq => ⟨by rw [mI_s2 _ _ (Or.inl (by omega)), mI_s2 _ _ (Or.inr (by omega))], by rw [mI_s2 _ _ (Or.inr (by omega)), mI_s2 _ _ (Or.inl (by omega))]⟩
  have e2b : gI (sI (sI h1 103 p (4 - (k : Int))) 104 p (opt k : Int)) 103 p = 4 - (k : Int) := by rw [mI_s2 _ _ (Or.inl (by omega)), mI_s1]
  have e2c : gI (sI (sI h1 103 p (4 - (k : Int))) 104 p (opt k : Int)) 104 p = (opt k : Int) := mI_s1 _ _ _ _
  have e2d : gI (sI (sI h1 103 p (4 - (k : Int))) 104 p (opt k : Int)) 105 = gI h1 105 := by funext j; rw [mI_s2 _ _ (Or.inl (by omega)), mI_s2 _ _ (Or.inl (by omega))]
  have e2e : ∀ j, gI (sI (sI h1 103 p (4 - (k : Int))) 104 p (opt k : Int)) 93 j = gI h1 93 j := fun j => by rw [mI_s2 _ _ (Or.inl (by omega)), mI_s2 _ _ (Or.inl (by omega))]
  have at93 : z_X l G mtX8_finds lv 0 0 QQ 0 0 (sI (sI h1 103 p (4 - (k : Int))) 104 p (opt k : Int)) 93 [vR 93, vI M, vI b, vI n, vI p, vJ] [] := by
    generalize sI (sI h1 103 p (4 - (k : Int))) 104 p (opt k : Int) = h2 at *
    have f12 := f1.tr f2
    obtain ⟨hS2, hm2, hP2⟩ := hsh h2 f12
    have hJ2 : JF A b n h2 ls := hJ.o (e2e 16) (e2e 17) e2d
    have c0 := hS2.1
    have c102 := hS2.2.2.1.1
    have c104 := hS2.2.2.1.2.2.1
    have s12 := hS2.2.2.2.2.1
    have s14 := hS2.2.2.2.2.2.2.1
    have hol := opt_lt (show k ≤ 4 by omega)
    have hbit := z_bit (gI h2 102 p) (k := opt k) (by omega)
    rw [(hP2.2 p (by omega)).2 k hk] at hbit
    have hE2 : EnO h2 104 (p + 1) (up s p k) := fun q hq => by
      by_cases e : q = p
      · rw [e, up_s]; exact e2c
      · rw [up_n _ _ e, (e2a q (by omega)).2]; exact hE q (by omega)
    have hmem : ∀ t, t ∈ enum d (up s p k) → t p = k ∧ (∀ q, q < p → t q = s q) ∧ ∀ q, q < 8 → t q ≤ 4 := fun t ht => enum_k (d := d) (by omega) (fun q hq => by have := (hpre q hq).1; omega) (by omega) ht
    have hagree : ∀ t, t ∈ enum d (up s p k) → ∀ q, q ≤ p → t q = up s p k q := fun t ht q hq => by
      obtain ⟨m1, m2, -⟩ := hmem t ht
      by_cases e : q = p
      · rw [e, up_s]; exact m1
      · rw [up_n _ _ e]; exact m2 q (by omega)
    have skip0 : (∀ t, t ∈ enum d (up s p k) → PLb A S AL t = false) → z_X l G mtX8_finds lv 0 0 (QQ) 0 0 (h2) 142 [vR 93, vI M, vI b, vI n, vI p, vJ] [] := by
      intro hno
      have hs := Hskip h2 f12 e2a e2b (by rw [filt_none hno, List.append_nil]; exact hJ2)
      refine z_run1 tsX8_finds [24] 20 ?_
      simp (maxSteps := 1000000) -implicitDefEqProofs +contextual (disch := omega) only [z_wp_t, z_wp_u, ↓pI_e, ↓pL_e, ↓pO_e, ↓pR_e, ↓p1_I, ↓p1_O, z_gl, z_st1, z_st2, z_nl_I, z_nl_O, z_nl_J, z_nl_L, if_true, if_false, ite_true, ite_false, true_and, and_true, List.mem_cons, List.not_mem_nil, or_false, false_or, or_self, List.length_cons, List.length_nil, InR_t, InL_t, z_ix_t, mI_s1, mI_s2, ↓brT, ↓brF, ↓brT', ↓brF', mL_sI, mR_sI, mK_sI, mS_sI, mI_sL, mL_s1, mL_s2, mR_sL, mK_sL, mS_sL, mI_sR, mL_sR, mR_s1, mR_s2, mK_sR, mS_sR, mA_s1, mA_s2, mL_sA, mR_sA, mK_sA, mS_sA, ix_n, ix_a, ix_m, ix_s, z_sw, z_stop, forall_const, true_implies, false_implies, imp_self, implies_true, not_true_eq_false, not_false_eq_true, ne_eq, eq_self, Option.some.injEq, reduceCtorEq, Nat.reduceAdd, Nat.reduceSub, Nat.reduceMul, Nat.reduceEqDiff, Nat.reduceLT, Nat.reduceLeDiff, Int.reduceAdd, Int.reduceMul, Int.reduceSub, Int.reduceNeg, Int.reduceToNat, Int.reduceLT, Int.reduceLE, Int.reduceEq, ↓reduceIte, List.reverse_cons, Option.toList, List.cons_append, List.nil_append, vI_inj, vL_inj, vO_inj, rI, rL, rO, rV, mI_sQ, mL_sQ, mK_sQ, mS_sQ, mQ_s1, mQ_s2, iL_and, iL_or, iL_xor, iL_shl, iL_ushr, iR_and, iR_or, iR_xor, iR_shl, iR_shr, iR_ushr, iR_cmp, yc0, tlX8_finds, tkX8_finds, o_aload, o_dup2, o_getR, o_goto, o_iadd, o_iald, o_iand, o_iast, o_ic, o_icge, o_icle, o_icne, o_ifeq, o_iflt, o_iinc, o_iload, o_iret, o_ishr, o_istore, o_isub, o_putI]
      try simp +contextual (disch := omega) only [impF, impT, and_true, true_and, implies_true, not_false_eq_true, not_true_eq_false]
      refine x_wk [vR 93, vI M, vI b, vI n, vI p, vJ] (by simp [z_wk]) ?_
      exact hs
    cases hal : AL p k
    · rw [hal] at hbit
      simp only [Bool.false_eq_true, if_false] at hbit
      have hs := skip0 (fun t ht => by
        cases hq : PLb A S AL t
        · rfl
        · have := (allN_iff.mp hq) p (by omega)
          rw [(hmem t ht).1, hal] at this
          cases this)
      refine z_run1 tsX8_finds [142] 30 ?_
      simp (maxSteps := 1000000) -implicitDefEqProofs +contextual (disch := omega) only [z_wp_t, z_wp_u, ↓pI_e, ↓pL_e, ↓pO_e, ↓pR_e, ↓p1_I, ↓p1_O, z_gl, z_st1, z_st2, z_nl_I, z_nl_O, z_nl_J, z_nl_L, if_true, if_false, ite_true, ite_false, true_and, and_true, List.mem_cons, List.not_mem_nil, or_false, false_or, or_self, List.length_cons, List.length_nil, InR_t, InL_t, z_ix_t, mI_s1, mI_s2, ↓brT, ↓brF, ↓brT', ↓brF', mL_sI, mR_sI, mK_sI, mS_sI, mI_sL, mL_s1, mL_s2, mR_sL, mK_sL, mS_sL, mI_sR, mL_sR, mR_s1, mR_s2, mK_sR, mS_sR, mA_s1, mA_s2, mL_sA, mR_sA, mK_sA, mS_sA, ix_n, ix_a, ix_m, ix_s, z_sw, z_stop, forall_const, true_implies, false_implies, imp_self, implies_true, not_true_eq_false, not_false_eq_true, ne_eq, eq_self, Option.some.injEq, reduceCtorEq, Nat.reduceAdd, Nat.reduceSub, Nat.reduceMul, Nat.reduceEqDiff, Nat.reduceLT, Nat.reduceLeDiff, Int.reduceAdd, Int.reduceMul, Int.reduceSub, Int.reduceNeg, Int.reduceToNat, Int.reduceLT, Int.reduceLE, Int.reduceEq, ↓reduceIte, List.reverse_cons, Option.toList, List.cons_append, List.nil_append, vI_inj, vL_inj, vO_inj, rI, rL, rO, rV, mI_sQ, mL_sQ, mK_sQ, mS_sQ, mQ_s1, mQ_s2, iL_and, iL_or, iL_xor, iL_shl, iL_ushr, iR_and, iR_or, iR_xor, iR_shl, iR_shr, iR_ushr, iR_cmp, yc0, tlX8_finds, tkX8_finds, o_aload, o_dup2, o_getR, o_goto, o_iadd, o_iald, o_iand, o_iast, o_ic, o_icge, o_icle, o_icne, o_ifeq, o_iflt, o_iinc, o_iload, o_iret, o_ishr, o_istore, o_isub, o_putI, c0, c102, c104, s12, s14, e2c, hbit]
      try simp +contextual (disch := omega) only [impF, impT, and_true, true_and, implies_true, not_false_eq_true, not_true_eq_false]
      exact hs
    · rw [hal] at hbit
      simp only [if_true] at hbit
      have hsn : ∀ q, q ≤ p → up s p k q ≤ aN A q := fun q hq => by
        by_cases e : q = p
        · rw [e, up_s]; exact hAL p k (by omega) hk hal
        · rw [up_n _ _ e]; exact hAL q (s q) (by omega) (hpre q (by omega)).1 (hpre q (by omega)).2.1
      refine z_run1 tsX8_finds [] 30 ?_
      simp (maxSteps := 1000000) -implicitDefEqProofs +contextual (disch := omega) only [z_wp_t, z_wp_u, ↓pI_e, ↓pL_e, ↓pO_e, ↓pR_e, ↓p1_I, ↓p1_O, z_gl, z_st1, z_st2, z_nl_I, z_nl_O, z_nl_J, z_nl_L, if_true, if_false, ite_true, ite_false, true_and, and_true, List.mem_cons, List.not_mem_nil, or_false, false_or, or_self, List.length_cons, List.length_nil, InR_t, InL_t, z_ix_t, mI_s1, mI_s2, ↓brT, ↓brF, ↓brT', ↓brF', mL_sI, mR_sI, mK_sI, mS_sI, mI_sL, mL_s1, mL_s2, mR_sL, mK_sL, mS_sL, mI_sR, mL_sR, mR_s1, mR_s2, mK_sR, mS_sR, mA_s1, mA_s2, mL_sA, mR_sA, mK_sA, mS_sA, ix_n, ix_a, ix_m, ix_s, z_sw, z_stop, forall_const, true_implies, false_implies, imp_self, implies_true, not_true_eq_false, not_false_eq_true, ne_eq, eq_self, Option.some.injEq, reduceCtorEq, Nat.reduceAdd, Nat.reduceSub, Nat.reduceMul, Nat.reduceEqDiff, Nat.reduceLT, Nat.reduceLeDiff, Int.reduceAdd, Int.reduceMul, Int.reduceSub, Int.reduceNeg, Int.reduceToNat, Int.reduceLT, Int.reduceLE, Int.reduceEq, ↓reduceIte, List.reverse_cons, Option.toList, List.cons_append, List.nil_append, vI_inj, vL_inj, vO_inj, rI, rL, rO, rV, mI_sQ, mL_sQ, mK_sQ, mS_sQ, mQ_s1, mQ_s2, iL_and, iL_or, iL_xor, iL_shl, iL_ushr, iR_and, iR_or, iR_xor, iR_shl, iR_shr, iR_ushr, iR_cmp, yc0, tlX8_finds, tkX8_finds, o_aload, o_dup2, o_getR, o_goto, o_iadd, o_iald, o_iand, o_iast, o_ic, o_icge, o_icle, o_icne, o_ifeq, o_iflt, o_iinc, o_iload, o_iret, o_ishr, o_istore, o_isub, o_putI, c0, c102, c104, s12, s14, e2c, hbit]
      try simp +contextual (disch := omega) only [impF, impT, and_true, true_and, implies_true, not_false_eq_true, not_true_eq_false]
      refine x_callV (by decide +kernel) cv_X8_174 (sm_fits l G h2 p (up s p k) A S hS2 hm2 hA (by omega) hP2.1 hE2 hsn 3 (by omega)) c0 (by omega) rfl (by omega) (by omega) rfl (Nat.le_of_ble_eq_true rfl) ?_
      rintro r' h' ⟨rfl, hE'⟩
      subst h'
      unfold b01
      cases hfi : fitB A S (up s p k) p
      · simp only [Bool.false_eq_true, if_false]
        have hs := skip0 (fun t ht => by
          cases hq : PLb A S AL t
          · rfl
          · have := (allN_iff.mp hq) p (by omega)
            rw [fitB_c hA (hagree t ht), hfi, Bool.and_false] at this
            cases this)
        refine z_run1 tsX8_finds [142] 30 ?_
        simp (maxSteps := 1000000) -implicitDefEqProofs +contextual (disch := omega) only [z_wp_t, z_wp_u, ↓pI_e, ↓pL_e, ↓pO_e, ↓pR_e, ↓p1_I, ↓p1_O, z_gl, z_st1, z_st2, z_nl_I, z_nl_O, z_nl_J, z_nl_L, if_true, if_false, ite_true, ite_false, true_and, and_true, List.mem_cons, List.not_mem_nil, or_false, false_or, or_self, List.length_cons, List.length_nil, InR_t, InL_t, z_ix_t, mI_s1, mI_s2, ↓brT, ↓brF, ↓brT', ↓brF', mL_sI, mR_sI, mK_sI, mS_sI, mI_sL, mL_s1, mL_s2, mR_sL, mK_sL, mS_sL, mI_sR, mL_sR, mR_s1, mR_s2, mK_sR, mS_sR, mA_s1, mA_s2, mL_sA, mR_sA, mK_sA, mS_sA, ix_n, ix_a, ix_m, ix_s, z_sw, z_stop, forall_const, true_implies, false_implies, imp_self, implies_true, not_true_eq_false, not_false_eq_true, ne_eq, eq_self, Option.some.injEq, reduceCtorEq, Nat.reduceAdd, Nat.reduceSub, Nat.reduceMul, Nat.reduceEqDiff, Nat.reduceLT, Nat.reduceLeDiff, Int.reduceAdd, Int.reduceMul, Int.reduceSub, Int.reduceNeg, Int.reduceToNat, Int.reduceLT, Int.reduceLE, Int.reduceEq, ↓reduceIte, List.reverse_cons, Option.toList, List.cons_append, List.nil_append, vI_inj, vL_inj, vO_inj, rI, rL, rO, rV, mI_sQ, mL_sQ, mK_sQ, mS_sQ, mQ_s1, mQ_s2, iL_and, iL_or, iL_xor, iL_shl, iL_ushr, iR_and, iR_or, iR_xor, iR_shl, iR_shr, iR_ushr, iR_cmp, yc0, tlX8_finds, tkX8_finds, o_aload, o_dup2, o_getR, o_goto, o_iadd, o_iald, o_iand, o_iast, o_ic, o_icge, o_icle, o_icne, o_ifeq, o_iflt, o_iinc, o_iload, o_iret, o_ishr, o_istore, o_isub, o_putI]
        try simp +contextual (disch := omega) only [impF, impT, and_true, true_and, implies_true, not_false_eq_true, not_true_eq_false]
        exact hs
      · simp only [if_true]
        obtain ⟨-, bc, bp, j1, j2, j3, j4, j5⟩ := id hJ2
        rcases hb with rfl | rfl
        · have hg := Hgood h2 bc bp f12 e2a e2b hE2 hJ2 hal hfi j1 j2 (fun q => by omega)
          refine z_run1 tsX8_finds [150] 30 ?_
          simp (maxSteps := 1000000) -implicitDefEqProofs +contextual (disch := omega) only [z_wp_t, z_wp_u, ↓pI_e, ↓pL_e, ↓pO_e, ↓pR_e, ↓p1_I, ↓p1_O, z_gl, z_st1, z_st2, z_nl_I, z_nl_O, z_nl_J, z_nl_L, if_true, if_false, ite_true, ite_false, true_and, and_true, List.mem_cons, List.not_mem_nil, or_false, false_or, or_self, List.length_cons, List.length_nil, InR_t, InL_t, z_ix_t, mI_s1, mI_s2, ↓brT, ↓brF, ↓brT', ↓brF', mL_sI, mR_sI, mK_sI, mS_sI, mI_sL, mL_s1, mL_s2, mR_sL, mK_sL, mS_sL, mI_sR, mL_sR, mR_s1, mR_s2, mK_sR, mS_sR, mA_s1, mA_s2, mL_sA, mR_sA, mK_sA, mS_sA, ix_n, ix_a, ix_m, ix_s, z_sw, z_stop, forall_const, true_implies, false_implies, imp_self, implies_true, not_true_eq_false, not_false_eq_true, ne_eq, eq_self, Option.some.injEq, reduceCtorEq, Nat.reduceAdd, Nat.reduceSub, Nat.reduceMul, Nat.reduceEqDiff, Nat.reduceLT, Nat.reduceLeDiff, Int.reduceAdd, Int.reduceMul, Int.reduceSub, Int.reduceNeg, Int.reduceToNat, Int.reduceLT, Int.reduceLE, Int.reduceEq, ↓reduceIte, List.reverse_cons, Option.toList, List.cons_append, List.nil_append, vI_inj, vL_inj, vO_inj, rI, rL, rO, rV, mI_sQ, mL_sQ, mK_sQ, mS_sQ, mQ_s1, mQ_s2, iL_and, iL_or, iL_xor, iL_shl, iL_ushr, iR_and, iR_or, iR_xor, iR_shl, iR_shr, iR_ushr, iR_cmp, yc0, tlX8_finds, tkX8_finds, o_aload, o_dup2, o_getR, o_goto, o_iadd, o_iald, o_iand, o_iast, o_ic, o_icge, o_icle, o_icne, o_ifeq, o_iflt, o_iinc, o_iload, o_iret, o_ishr, o_istore, o_isub, o_putI]
          try simp +contextual (disch := omega) only [impF, impT, and_true, true_and, implies_true, not_false_eq_true, not_true_eq_false]
          exact hg
        · refine z_run1 tsX8_finds [] 30 ?_
          simp (maxSteps := 1000000) -implicitDefEqProofs +contextual (disch := omega) only [z_wp_t, z_wp_u, ↓pI_e, ↓pL_e, ↓pO_e, ↓pR_e, ↓p1_I, ↓p1_O, z_gl, z_st1, z_st2, z_nl_I, z_nl_O, z_nl_J, z_nl_L, if_true, if_false, ite_true, ite_false, true_and, and_true, List.mem_cons, List.not_mem_nil, or_false, false_or, or_self, List.length_cons, List.length_nil, InR_t, InL_t, z_ix_t, mI_s1, mI_s2, ↓brT, ↓brF, ↓brT', ↓brF', mL_sI, mR_sI, mK_sI, mS_sI, mI_sL, mL_s1, mL_s2, mR_sL, mK_sL, mS_sL, mI_sR, mL_sR, mR_s1, mR_s2, mK_sR, mS_sR, mA_s1, mA_s2, mL_sA, mR_sA, mK_sA, mS_sA, ix_n, ix_a, ix_m, ix_s, z_sw, z_stop, forall_const, true_implies, false_implies, imp_self, implies_true, not_true_eq_false, not_false_eq_true, ne_eq, eq_self, Option.some.injEq, reduceCtorEq, Nat.reduceAdd, Nat.reduceSub, Nat.reduceMul, Nat.reduceEqDiff, Nat.reduceLT, Nat.reduceLeDiff, Int.reduceAdd, Int.reduceMul, Int.reduceSub, Int.reduceNeg, Int.reduceToNat, Int.reduceLT, Int.reduceLE, Int.reduceEq, ↓reduceIte, List.reverse_cons, Option.toList, List.cons_append, List.nil_append, vI_inj, vL_inj, vO_inj, rI, rL, rO, rV, mI_sQ, mL_sQ, mK_sQ, mS_sQ, mQ_s1, mQ_s2, iL_and, iL_or, iL_xor, iL_shl, iL_ushr, iR_and, iR_or, iR_xor, iR_shl, iR_shr, iR_ushr, iR_cmp, yc0, tlX8_finds, tkX8_finds, o_aload, o_dup2, o_getR, o_goto, o_iadd, o_iald, o_iand, o_iast, o_ic, o_icge, o_icle, o_icne, o_ifeq, o_iflt, o_iinc, o_iload, o_iret, o_ishr, o_istore, o_isub, o_putI]
          try simp +contextual (disch := omega) only [impF, impT, and_true, true_and, implies_true, not_false_eq_true, not_true_eq_false]
          have hcb := sm_canBeBetter l G h2 (p + 1) bc bp (up s p k) A hS2 hm2 hA (by omega) hE2 (fun q hq => hsn q (by omega)) j1 j2 j3 j4 3 (by omega)
          rw [show ((p + 1 : Nat) : Int) = (p : Int) + 1 by omega] at hcb
          refine x_callV (by decide +kernel) cv_X8_177 (hcb) c0 (by omega) rfl (by omega) (by omega) rfl (Nat.le_of_ble_eq_true rfl) ?_
          rintro r' h' ⟨rfl, hE'⟩
          subst h'
          unfold b01
          cases hc : cbB A (up s p k) (p + 1) bc bp
          · simp only [Bool.false_eq_true, if_false]
            have hs := Hskip h2 f12 e2a e2b (hJ2.prune j1 j2 (by omega) hc (fun t ht q hq => hagree t (List.mem_filter.mp ht).1 q (by omega)))
            refine z_run1 tsX8_finds [24] 30 ?_
            simp (maxSteps := 1000000) -implicitDefEqProofs +contextual (disch := omega) only [z_wp_t, z_wp_u, ↓pI_e, ↓pL_e, ↓pO_e, ↓pR_e, ↓p1_I, ↓p1_O, z_gl, z_st1, z_st2, z_nl_I, z_nl_O, z_nl_J, z_nl_L, if_true, if_false, ite_true, ite_false, true_and, and_true, List.mem_cons, List.not_mem_nil, or_false, false_or, or_self, List.length_cons, List.length_nil, InR_t, InL_t, z_ix_t, mI_s1, mI_s2, ↓brT, ↓brF, ↓brT', ↓brF', mL_sI, mR_sI, mK_sI, mS_sI, mI_sL, mL_s1, mL_s2, mR_sL, mK_sL, mS_sL, mI_sR, mL_sR, mR_s1, mR_s2, mK_sR, mS_sR, mA_s1, mA_s2, mL_sA, mR_sA, mK_sA, mS_sA, ix_n, ix_a, ix_m, ix_s, z_sw, z_stop, forall_const, true_implies, false_implies, imp_self, implies_true, not_true_eq_false, not_false_eq_true, ne_eq, eq_self, Option.some.injEq, reduceCtorEq, Nat.reduceAdd, Nat.reduceSub, Nat.reduceMul, Nat.reduceEqDiff, Nat.reduceLT, Nat.reduceLeDiff, Int.reduceAdd, Int.reduceMul, Int.reduceSub, Int.reduceNeg, Int.reduceToNat, Int.reduceLT, Int.reduceLE, Int.reduceEq, ↓reduceIte, List.reverse_cons, Option.toList, List.cons_append, List.nil_append, vI_inj, vL_inj, vO_inj, rI, rL, rO, rV, mI_sQ, mL_sQ, mK_sQ, mS_sQ, mQ_s1, mQ_s2, iL_and, iL_or, iL_xor, iL_shl, iL_ushr, iR_and, iR_or, iR_xor, iR_shl, iR_shr, iR_ushr, iR_cmp, yc0, tlX8_finds, tkX8_finds, o_aload, o_dup2, o_getR, o_goto, o_iadd, o_iald, o_iand, o_iast, o_ic, o_icge, o_icle, o_icne, o_ifeq, o_iflt, o_iinc, o_iload, o_iret, o_ishr, o_istore, o_isub, o_putI]
            try simp +contextual (disch := omega) only [impF, impT, and_true, true_and, implies_true, not_false_eq_true, not_true_eq_false]
            refine x_wk [vR 93, vI M, vI 1, vI n, vI p, vJ] (by simp [z_wk]) ?_
            exact hs
          · simp only [if_true]
            have hg := Hgood h2 bc bp f12 e2a e2b hE2 hJ2 hal hfi j1 j2 (fun q => hc)
            refine z_run1 tsX8_finds [150] 30 ?_
            simp (maxSteps := 1000000) -implicitDefEqProofs +contextual (disch := omega) only [z_wp_t, z_wp_u, ↓pI_e, ↓pL_e, ↓pO_e, ↓pR_e, ↓p1_I, ↓p1_O, z_gl, z_st1, z_st2, z_nl_I, z_nl_O, z_nl_J, z_nl_L, if_true, if_false, ite_true, ite_false, true_and, and_true, List.mem_cons, List.not_mem_nil, or_false, false_or, or_self, List.length_cons, List.length_nil, InR_t, InL_t, z_ix_t, mI_s1, mI_s2, ↓brT, ↓brF, ↓brT', ↓brF', mL_sI, mR_sI, mK_sI, mS_sI, mI_sL, mL_s1, mL_s2, mR_sL, mK_sL, mS_sL, mI_sR, mL_sR, mR_s1, mR_s2, mK_sR, mS_sR, mA_s1, mA_s2, mL_sA, mR_sA, mK_sA, mS_sA, ix_n, ix_a, ix_m, ix_s, z_sw, z_stop, forall_const, true_implies, false_implies, imp_self, implies_true, not_true_eq_false, not_false_eq_true, ne_eq, eq_self, Option.some.injEq, reduceCtorEq, Nat.reduceAdd, Nat.reduceSub, Nat.reduceMul, Nat.reduceEqDiff, Nat.reduceLT, Nat.reduceLeDiff, Int.reduceAdd, Int.reduceMul, Int.reduceSub, Int.reduceNeg, Int.reduceToNat, Int.reduceLT, Int.reduceLE, Int.reduceEq, ↓reduceIte, List.reverse_cons, Option.toList, List.cons_append, List.nil_append, vI_inj, vL_inj, vO_inj, rI, rL, rO, rV, mI_sQ, mL_sQ, mK_sQ, mS_sQ, mQ_s1, mQ_s2, iL_and, iL_or, iL_xor, iL_shl, iL_ushr, iR_and, iR_or, iR_xor, iR_shl, iR_shr, iR_ushr, iR_cmp, yc0, tlX8_finds, tkX8_finds, o_aload, o_dup2, o_getR, o_goto, o_iadd, o_iald, o_iand, o_iast, o_ic, o_icge, o_icle, o_icne, o_ifeq, o_iflt, o_iinc, o_iload, o_iret, o_ishr, o_istore, o_isub, o_putI]
            try simp +contextual (disch := omega) only [impF, impT, and_true, true_and, implies_true, not_false_eq_true, not_true_eq_false]
            exact hg
  have h103' : gI h1 103 p = 3 - (k : Int) := by rw [h103]; omega
  by_cases hk0 : k = 0
  · subst hk0
    have h103'' : gI h1 103 p = 3 := by rw [h103']; rfl
    rw [show (4 : Int) - ((0 : Nat) : Int) = 4 from rfl, show ((opt 0 : Nat) : Int) = 4 from rfl] at at93
    refine z_run1 tsX8_finds [93] 40 ?_
    simp (maxSteps := 1000000) -implicitDefEqProofs +contextual (disch := omega) only [z_wp_t, z_wp_u, ↓pI_e, ↓pL_e, ↓pO_e, ↓pR_e, ↓p1_I, ↓p1_O, z_gl, z_st1, z_st2, z_nl_I, z_nl_O, z_nl_J, z_nl_L, if_true, if_false, ite_true, ite_false, true_and, and_true, List.mem_cons, List.not_mem_nil, or_false, false_or, or_self, List.length_cons, List.length_nil, InR_t, InL_t, z_ix_t, mI_s1, mI_s2, ↓brT, ↓brF, ↓brT', ↓brF', mL_sI, mR_sI, mK_sI, mS_sI, mI_sL, mL_s1, mL_s2, mR_sL, mK_sL, mS_sL, mI_sR, mL_sR, mR_s1, mR_s2, mK_sR, mS_sR, mA_s1, mA_s2, mL_sA, mR_sA, mK_sA, mS_sA, ix_n, ix_a, ix_m, ix_s, z_sw, z_stop, forall_const, true_implies, false_implies, imp_self, implies_true, not_true_eq_false, not_false_eq_true, ne_eq, eq_self, Option.some.injEq, reduceCtorEq, Nat.reduceAdd, Nat.reduceSub, Nat.reduceMul, Nat.reduceEqDiff, Nat.reduceLT, Nat.reduceLeDiff, Int.reduceAdd, Int.reduceMul, Int.reduceSub, Int.reduceNeg, Int.reduceToNat, Int.reduceLT, Int.reduceLE, Int.reduceEq, ↓reduceIte, List.reverse_cons, Option.toList, List.cons_append, List.nil_append, vI_inj, vL_inj, vO_inj, rI, rL, rO, rV, mI_sQ, mL_sQ, mK_sQ, mS_sQ, mQ_s1, mQ_s2, iL_and, iL_or, iL_xor, iL_shl, iL_ushr, iR_and, iR_or, iR_xor, iR_shl, iR_shr, iR_ushr, iR_cmp, yc0, tlX8_finds, tkX8_finds, o_aload, o_dup2, o_getR, o_goto, o_iadd, o_iald, o_iand, o_iast, o_ic, o_icge, o_icle, o_icne, o_ifeq, o_iflt, o_iinc, o_iload, o_iret, o_ishr, o_istore, o_isub, o_putI, k0, k103, k104, r13, r14, h103'']
    try simp +contextual (disch := omega) only [impF, impT, and_true, true_and, implies_true, not_false_eq_true, not_true_eq_false]
    exact at93
  · have ho : ((opt k : Nat) : Int) = (k : Int) - 1 := by unfold opt; rw [if_neg hk0]; omega
    rw [ho] at at93
    have ea : (3 : Int) - (k : Int) + 1 = 4 - (k : Int) := by omega
    have eb : (3 : Int) - (4 - (k : Int)) = (k : Int) - 1 := by omega
    refine z_run1 tsX8_finds [93] 40 ?_
    simp (maxSteps := 1000000) -implicitDefEqProofs +contextual (disch := omega) only [z_wp_t, z_wp_u, ↓pI_e, ↓pL_e, ↓pO_e, ↓pR_e, ↓p1_I, ↓p1_O, z_gl, z_st1, z_st2, z_nl_I, z_nl_O, z_nl_J, z_nl_L, if_true, if_false, ite_true, ite_false, true_and, and_true, List.mem_cons, List.not_mem_nil, or_false, false_or, or_self, List.length_cons, List.length_nil, InR_t, InL_t, z_ix_t, mI_s1, mI_s2, ↓brT, ↓brF, ↓brT', ↓brF', mL_sI, mR_sI, mK_sI, mS_sI, mI_sL, mL_s1, mL_s2, mR_sL, mK_sL, mS_sL, mI_sR, mL_sR, mR_s1, mR_s2, mK_sR, mS_sR, mA_s1, mA_s2, mL_sA, mR_sA, mK_sA, mS_sA, ix_n, ix_a, ix_m, ix_s, z_sw, z_stop, forall_const, true_implies, false_implies, imp_self, implies_true, not_true_eq_false, not_false_eq_true, ne_eq, eq_self, Option.some.injEq, reduceCtorEq, Nat.reduceAdd, Nat.reduceSub, Nat.reduceMul, Nat.reduceEqDiff, Nat.reduceLT, Nat.reduceLeDiff, Int.reduceAdd, Int.reduceMul, Int.reduceSub, Int.reduceNeg, Int.reduceToNat, Int.reduceLT, Int.reduceLE, Int.reduceEq, ↓reduceIte, List.reverse_cons, Option.toList, List.cons_append, List.nil_append, vI_inj, vL_inj, vO_inj, rI, rL, rO, rV, mI_sQ, mL_sQ, mK_sQ, mS_sQ, mQ_s1, mQ_s2, iL_and, iL_or, iL_xor, iL_shl, iL_ushr, iR_and, iR_or, iR_xor, iR_shl, iR_shr, iR_ushr, iR_cmp, yc0, tlX8_finds, tkX8_finds, o_aload, o_dup2, o_getR, o_goto, o_iadd, o_iald, o_iand, o_iast, o_ic, o_icge, o_icle, o_icne, o_ifeq, o_iflt, o_iinc, o_iload, o_iret, o_ishr, o_istore, o_isub, o_putI, k0, k103, k104, r13, r14, h103', ea, eb]
    try simp +contextual (disch := omega) only [impF, impT, and_true, true_and, implies_true, not_false_eq_true, not_true_eq_false]
    exact at93
set_option maxRecDepth 4000 in
set_option maxHeartbeats 4000000 in
theorem fn_done (l : Launch) (G : zG) (h : zH) (QQ : Option zV → zH → Prop) (M : Nat) (b : Int) (A : zA) (S : Nat → Bool) (AL : Nat → Nat → Bool) (hS : ShM h) (hm : MA (gI h 94) A) (hA : AOK A) (hP : PrOK h A S AL) (hAL : ∀ p v, p < 8 → v < 5 → AL p v = true → v ≤ aN A p) (hb : b = 0 ∨ b = 1) (hM : 1 ≤ M ∧ M ≤ 1000000) (hM1 : b = 1 → 91 ≤ M) (lv : Nat) (hlv : 4 ≤ lv) : ∀ (p : Nat) (n : Nat) (h1 : zH), p ≤ 7 → FH h h1 → gI h1 103 p = 4 - ((0 : Nat) : Int) → n < M → z_X l G mtX8_finds lv 0 0 (QQ) 0 0 (sI h1 103 p 5) 24 [vR 93, vI M, vI b, vI n, vI ((p : Int) - 1), vJ] [] → z_X l G mtX8_finds lv 0 0 (QQ) 0 0 (h1) 24 [vR 93, vI M, vI b, vI n, vI p, vJ] [] := by
  have hsh := fun h1 f1 => fn_sh hS hm hP h1 f1
  intro p n h1 hp f1 h103 hnM hnx
  obtain ⟨hS1, hm1, hP1⟩ := hsh h1 f1
  have k0 := hS1.1
  have k103 := hS1.2.2.1.2.1
  have r13 := hS1.2.2.2.2.2.1
  have h4 : gI h1 103 p = 4 := by rw [h103]; rfl
  have ec : (p : Int) + -1 = (p : Int) - 1 := by omega
  have hn6 : n < 1000000 := by omega
  refine z_run1 tsX8_finds [24] 30 ?_
  simp (maxSteps := 1000000) -implicitDefEqProofs +contextual (disch := omega) only [z_wp_t, z_wp_u, ↓pI_e, ↓pL_e, ↓pO_e, ↓pR_e, ↓p1_I, ↓p1_O, z_gl, z_st1, z_st2, z_nl_I, z_nl_O, z_nl_J, z_nl_L, if_true, if_false, ite_true, ite_false, true_and, and_true, List.mem_cons, List.not_mem_nil, or_false, false_or, or_self, List.length_cons, List.length_nil, InR_t, InL_t, z_ix_t, mI_s1, mI_s2, ↓brT, ↓brF, ↓brT', ↓brF', mL_sI, mR_sI, mK_sI, mS_sI, mI_sL, mL_s1, mL_s2, mR_sL, mK_sL, mS_sL, mI_sR, mL_sR, mR_s1, mR_s2, mK_sR, mS_sR, mA_s1, mA_s2, mL_sA, mR_sA, mK_sA, mS_sA, ix_n, ix_a, ix_m, ix_s, z_sw, z_stop, forall_const, true_implies, false_implies, imp_self, implies_true, not_true_eq_false, not_false_eq_true, ne_eq, eq_self, Option.some.injEq, reduceCtorEq, Nat.reduceAdd, Nat.reduceSub, Nat.reduceMul, Nat.reduceEqDiff, Nat.reduceLT, Nat.reduceLeDiff, Int.reduceAdd, Int.reduceMul, Int.reduceSub, Int.reduceNeg, Int.reduceToNat, Int.reduceLT, Int.reduceLE, Int.reduceEq, ↓reduceIte, List.reverse_cons, Option.toList, List.cons_append, List.nil_append, vI_inj, vL_inj, vO_inj, rI, rL, rO, rV, mI_sQ, mL_sQ, mK_sQ, mS_sQ, mQ_s1, mQ_s2, iL_and, iL_or, iL_xor, iL_shl, iL_ushr, iR_and, iR_or, iR_xor, iR_shl, iR_shr, iR_ushr, iR_cmp, yc0, tlX8_finds, tkX8_finds, o_aload, o_dup2, o_getR, o_goto, o_iadd, o_iald, o_iand, o_iast, o_ic, o_icge, o_icle, o_icne, o_ifeq, o_iflt, o_iinc, o_iload, o_iret, o_ishr, o_istore, o_isub, o_putI, k0, k103, r13, h4, ec]
  try simp +contextual (disch := omega) only [impF, impT, and_true, true_and, implies_true, not_false_eq_true, not_true_eq_false]
  exact hnx
set_option maxRecDepth 4000 in
set_option maxHeartbeats 4000000 in
theorem fn_dfs (l : Launch) (G : zG) (h : zH) (QQ : Option zV → zH → Prop) (M : Nat) (b : Int) (A : zA) (S : Nat → Bool) (AL : Nat → Nat → Bool) (hS : ShM h) (hm : MA (gI h 94) A) (hA : AOK A) (hP : PrOK h A S AL) (hAL : ∀ p v, p < 8 → v < 5 → AL p v = true → v ≤ aN A p) (hb : b = 0 ∨ b = 1) (hM : 1 ≤ M ∧ M ≤ 1000000) (hM1 : b = 1 → 91 ≤ M) (lv : Nat) (hlv : 4 ≤ lv) : ∀ (d p : Nat), p + d = 7 → ∀ (k : Nat) (s : Nat → Nat) (ls : List (Nat → Nat)) (n : Nat) (h1 : zH), k ≤ 5 → FH h h1 → EnO h1 104 p s → (∀ q, q < p → s q < 5 ∧ AL q (s q) = true ∧ fitB A S s q = true) → gI h1 103 p = 4 - (k : Int) → JF A b n h1 ls → n < M → (∀ (h2 : zH) (n2 : Nat), FH h h2 → (∀ q, q < p → gI h2 103 q = gI h1 103 q ∧ gI h2 104 q = gI h1 104 q) → JF A b n2 h2 (ls ++ enV (fun v => (enum d (up s p v)).filter (PLb A S AL)) k) → n2 < M → z_X l G mtX8_finds lv 0 0 (QQ) 0 0 (h2) 24 [vR 93, vI M, vI b, vI n2, vI ((p : Int) - 1), vJ] []) → (∀ (h2 : zH), FH h h2 → b = 0 → M ≤ (ls ++ enV (fun v => (enum d (up s p v)).filter (PLb A S AL)) k).length → QQ (some (vI M)) h2) → z_X l G mtX8_finds lv 0 0 (QQ) 0 0 (h1) 24 [vR 93, vI M, vI b, vI n, vI p, vJ] [] := by
  have hsh := fun h1 f1 => fn_sh hS hm hP h1 f1
  have node := fn_node l G h QQ M b A S AL hS hm hA hP hAL hb hM hM1 lv hlv
  have done0 := fn_done l G h QQ M b A S AL hS hm hA hP hAL hb hM hM1 lv hlv
  intro d
  induction d with
  | zero =>
    intro p hp k
    obtain rfl : p = 7 := by omega
    induction k with
    | zero =>
      intro s ls n h1 hk f1 hE hpre h103 hJ hnM Kont Exit
      refine done0 7 n h1 (by omega) f1 h103 hnM ?_
      have e103 : gI (sI h1 103 7 5) 105 = gI h1 105 := by funext j; rw [mI_s2 _ _ (Or.inl (by omega))]
      exact Kont _ n (f1.tr (FH.w (by omega))) (fun q hq => ⟨by rw [mI_s2 _ _ (Or.inr (by omega))], by rw [mI_s2 _ _ (Or.inl (by omega))]⟩) (by simp only [enV, List.append_nil]; exact hJ.o (by rw [mI_s2 _ _ (Or.inl (by omega))]) (by rw [mI_s2 _ _ (Or.inl (by omega))]) e103) hnM
    | succ k ihk =>
      intro s ls n h1 hk f1 hE hpre h103 hJ hnM Kont Exit
      simp only [enV, ← List.append_assoc] at Kont Exit
      refine node 0 7 rfl k s ls n h1 (by omega) f1 hE hpre h103 hJ hnM (fun h2 f2 e2 g2 hJ2 => ?_) (fun h2 bc bp f2 e2 g2 hE2 hJ2 hal hfi j1 j2 hcb => ?_)
      · refine ihk s _ n h2 (by omega) f2 (fun q hq => by rw [(e2 q hq).2]; exact hE q hq) hpre g2 hJ2 hnM (fun h3 n3 f3 e3 hJ3 hn3 => ?_) Exit
        exact Kont h3 n3 f3 (fun q hq => ⟨(e3 q hq).1.trans (e2 q hq).1, (e3 q hq).2.trans (e2 q hq).2⟩) hJ3 hn3
      · obtain ⟨hS2, hm2, hP2⟩ := hsh h2 f2
        have c0 := hS2.1
        have hn6 : n < 1000000 := by omega
        have hsn : ∀ q, q < 8 → up s 7 k q ≤ aN A q := fun q hq => by
          by_cases e : q = 7
          · rw [e, up_s]; exact hAL 7 k (by omega) (by omega) hal
          · rw [up_n _ _ e]; exact hAL q (s q) (by omega) (hpre q (by omega)).1 (hpre q (by omega)).2.1
        have hPL : PLb A S AL (up s 7 k) = true := allN_iff.mpr (fun q hq => by
          by_cases e : q = 7
          · rw [e, up_s, hal, hfi]; rfl
          · obtain ⟨g1, g2', g3⟩ := hpre q (by omega)
            rw [up_n _ _ e, g2', fitB_c hA (s := s) (fun x hx => up_n _ _ (by omega)), g3]
            rfl)
        have hsub : (enum 0 (up s 7 k)).filter (PLb A S AL) = [up s 7 k] := by simp [enum, hPL]
        rw [hsub] at Kont Exit
        refine z_run1 tsX8_finds [] 20 ?_
        simp (maxSteps := 1000000) -implicitDefEqProofs +contextual (disch := omega) only [z_wp_t, z_wp_u, ↓pI_e, ↓pL_e, ↓pO_e, ↓pR_e, ↓p1_I, ↓p1_O, z_gl, z_st1, z_st2, z_nl_I, z_nl_O, z_nl_J, z_nl_L, if_true, if_false, ite_true, ite_false, true_and, and_true, List.mem_cons, List.not_mem_nil, or_false, false_or, or_self, List.length_cons, List.length_nil, InR_t, InL_t, z_ix_t, mI_s1, mI_s2, ↓brT, ↓brF, ↓brT', ↓brF', mL_sI, mR_sI, mK_sI, mS_sI, mI_sL, mL_s1, mL_s2, mR_sL, mK_sL, mS_sL, mI_sR, mL_sR, mR_s1, mR_s2, mK_sR, mS_sR, mA_s1, mA_s2, mL_sA, mR_sA, mK_sA, mS_sA, ix_n, ix_a, ix_m, ix_s, z_sw, z_stop, forall_const, true_implies, false_implies, imp_self, implies_true, not_true_eq_false, not_false_eq_true, ne_eq, eq_self, Option.some.injEq, reduceCtorEq, Nat.reduceAdd, Nat.reduceSub, Nat.reduceMul, Nat.reduceEqDiff, Nat.reduceLT, Nat.reduceLeDiff, Int.reduceAdd, Int.reduceMul, Int.reduceSub, Int.reduceNeg, Int.reduceToNat, Int.reduceLT, Int.reduceLE, Int.reduceEq, ↓reduceIte, List.reverse_cons, Option.toList, List.cons_append, List.nil_append, vI_inj, vL_inj, vO_inj, rI, rL, rO, rV, mI_sQ, mL_sQ, mK_sQ, mS_sQ, mQ_s1, mQ_s2, iL_and, iL_or, iL_xor, iL_shl, iL_ushr, iR_and, iR_or, iR_xor, iR_shl, iR_shr, iR_ushr, iR_cmp, yc0, tlX8_finds, tkX8_finds, o_aload, o_dup2, o_getR, o_goto, o_iadd, o_iald, o_iand, o_iast, o_ic, o_icge, o_icle, o_icne, o_ifeq, o_iflt, o_iinc, o_iload, o_iret, o_ishr, o_istore, o_isub, o_putI]
        try simp +contextual (disch := omega) only [impF, impT, and_true, true_and, implies_true, not_false_eq_true, not_true_eq_false]
        refine x_callV (by decide +kernel) cv_X8_180 (sm_notes l G h2 (up s 7 k) A hS2 hm2 hA hE2 hsn 3 (by omega)) c0 (by omega) rfl (by omega) (by omega) rfl (Nat.le_of_ble_eq_true rfl) ?_
        rintro r' h3 ⟨rfl, f3, hR3, hk3, hl3, n16, n17, hE3⟩
        have fh3 : FH h2 h3 := ⟨f3.mono (fun c q => by omega), hR3, hk3, hl3⟩
        have hJ3 := hJ2.leaf hb j1 j2 hcb n16 n17 hE3
        have e3a : ∀ q, gI h3 103 q = gI h2 103 q ∧ gI h3 104 q = gI h2 104 q := fun q => ⟨by rw [f3.I (by omega)], by rw [f3.I (by omega)]⟩
        by_cases hfull : n + 1 < M
        · have hnx := ihk s _ (n + 1) h3 (by omega) (f2.tr fh3) (fun q hq => by rw [(e3a q).2, (e2 q hq).2]; exact hE q hq) hpre (by rw [(e3a 7).1]; exact g2) hJ3 hfull (fun h4 n4 f4 e4 hJ4 hn4 => Kont h4 n4 f4 (fun q hq => ⟨(e4 q hq).1.trans ((e3a q).1.trans (e2 q hq).1), (e4 q hq).2.trans ((e3a q).2.trans (e2 q hq).2)⟩) hJ4 hn4) Exit
          refine z_run1 tsX8_finds [24] 20 ?_
          simp (maxSteps := 1000000) -implicitDefEqProofs +contextual (disch := omega) only [z_wp_t, z_wp_u, ↓pI_e, ↓pL_e, ↓pO_e, ↓pR_e, ↓p1_I, ↓p1_O, z_gl, z_st1, z_st2, z_nl_I, z_nl_O, z_nl_J, z_nl_L, if_true, if_false, ite_true, ite_false, true_and, and_true, List.mem_cons, List.not_mem_nil, or_false, false_or, or_self, List.length_cons, List.length_nil, InR_t, InL_t, z_ix_t, mI_s1, mI_s2, ↓brT, ↓brF, ↓brT', ↓brF', mL_sI, mR_sI, mK_sI, mS_sI, mI_sL, mL_s1, mL_s2, mR_sL, mK_sL, mS_sL, mI_sR, mL_sR, mR_s1, mR_s2, mK_sR, mS_sR, mA_s1, mA_s2, mL_sA, mR_sA, mK_sA, mS_sA, ix_n, ix_a, ix_m, ix_s, z_sw, z_stop, forall_const, true_implies, false_implies, imp_self, implies_true, not_true_eq_false, not_false_eq_true, ne_eq, eq_self, Option.some.injEq, reduceCtorEq, Nat.reduceAdd, Nat.reduceSub, Nat.reduceMul, Nat.reduceEqDiff, Nat.reduceLT, Nat.reduceLeDiff, Int.reduceAdd, Int.reduceMul, Int.reduceSub, Int.reduceNeg, Int.reduceToNat, Int.reduceLT, Int.reduceLE, Int.reduceEq, ↓reduceIte, List.reverse_cons, Option.toList, List.cons_append, List.nil_append, vI_inj, vL_inj, vO_inj, rI, rL, rO, rV, mI_sQ, mL_sQ, mK_sQ, mS_sQ, mQ_s1, mQ_s2, iL_and, iL_or, iL_xor, iL_shl, iL_ushr, iR_and, iR_or, iR_xor, iR_shl, iR_shr, iR_ushr, iR_cmp, yc0, tlX8_finds, tkX8_finds, o_aload, o_dup2, o_getR, o_goto, o_iadd, o_iald, o_iand, o_iast, o_ic, o_icge, o_icle, o_icne, o_ifeq, o_iflt, o_iinc, o_iload, o_iret, o_ishr, o_istore, o_isub, o_putI]
          try simp +contextual (disch := omega) only [impF, impT, and_true, true_and, implies_true, not_false_eq_true, not_true_eq_false]
          refine x_wk [vR 93, vI M, vI b, vI ((n + 1 : Nat) : Int), vI ((7 : Nat) : Int), vJ] (by simp [z_wk]) ?_
          exact hnx
        · have hnM' : n + 1 = M := by omega
          have hb0 : b = 0 := by
            rcases hb with q | q
            · exact q
            · obtain ⟨-, bc', bp', x1, x2, x3, x4, x5⟩ := hJ3
              obtain ⟨y1, y2⟩ := x5 q
              have := hM1 q
              cases ho : impL (cost A) none (ls ++ [up s 7 k]) with
              | none => have := y1 ho; omega
              | some t => have := y2 t ho; omega
          have hq := Exit h3 (f2.tr fh3) hb0 (by
            have := hJ3.1 hb0
            rw [List.length_append]
            omega)
          have hMe : (n : Int) + 1 = (M : Int) := by omega
          refine z_run1 tsX8_finds [] 30 ?_
          simp (maxSteps := 1000000) -implicitDefEqProofs +contextual (disch := omega) only [z_wp_t, z_wp_u, ↓pI_e, ↓pL_e, ↓pO_e, ↓pR_e, ↓p1_I, ↓p1_O, z_gl, z_st1, z_st2, z_nl_I, z_nl_O, z_nl_J, z_nl_L, if_true, if_false, ite_true, ite_false, true_and, and_true, List.mem_cons, List.not_mem_nil, or_false, false_or, or_self, List.length_cons, List.length_nil, InR_t, InL_t, z_ix_t, mI_s1, mI_s2, ↓brT, ↓brF, ↓brT', ↓brF', mL_sI, mR_sI, mK_sI, mS_sI, mI_sL, mL_s1, mL_s2, mR_sL, mK_sL, mS_sL, mI_sR, mL_sR, mR_s1, mR_s2, mK_sR, mS_sR, mA_s1, mA_s2, mL_sA, mR_sA, mK_sA, mS_sA, ix_n, ix_a, ix_m, ix_s, z_sw, z_stop, forall_const, true_implies, false_implies, imp_self, implies_true, not_true_eq_false, not_false_eq_true, ne_eq, eq_self, Option.some.injEq, reduceCtorEq, Nat.reduceAdd, Nat.reduceSub, Nat.reduceMul, Nat.reduceEqDiff, Nat.reduceLT, Nat.reduceLeDiff, Int.reduceAdd, Int.reduceMul, Int.reduceSub, Int.reduceNeg, Int.reduceToNat, Int.reduceLT, Int.reduceLE, Int.reduceEq, ↓reduceIte, List.reverse_cons, Option.toList, List.cons_append, List.nil_append, vI_inj, vL_inj, vO_inj, rI, rL, rO, rV, mI_sQ, mL_sQ, mK_sQ, mS_sQ, mQ_s1, mQ_s2, iL_and, iL_or, iL_xor, iL_shl, iL_ushr, iR_and, iR_or, iR_xor, iR_shl, iR_shr, iR_ushr, iR_cmp, yc0, tlX8_finds, tkX8_finds, o_aload, o_dup2, o_getR, o_goto, o_iadd, o_iald, o_iand, o_iast, o_ic, o_icge, o_icle, o_icne, o_ifeq, o_iflt, o_iinc, o_iload, o_iret, o_ishr, o_istore, o_isub, o_putI, hMe]
          try simp +contextual (disch := omega) only [impF, impT, and_true, true_and, implies_true, not_false_eq_true, not_true_eq_false]
          exact hq
  | succ d ihd =>
    intro p hp k
    induction k with
    | zero =>
      intro s ls n h1 hk f1 hE hpre h103 hJ hnM Kont Exit
      refine done0 p n h1 (by omega) f1 h103 hnM ?_
      have e103 : gI (sI h1 103 p 5) 105 = gI h1 105 := by funext j; rw [mI_s2 _ _ (Or.inl (by omega))]
      exact Kont _ n (f1.tr (FH.w (by omega))) (fun q hq => ⟨by rw [mI_s2 _ _ (Or.inr (by omega))], by rw [mI_s2 _ _ (Or.inl (by omega))]⟩) (by simp only [enV, List.append_nil]; exact hJ.o (by rw [mI_s2 _ _ (Or.inl (by omega))]) (by rw [mI_s2 _ _ (Or.inl (by omega))]) e103) hnM
    | succ k ihk =>
      intro s ls n h1 hk f1 hE hpre h103 hJ hnM Kont Exit
      simp only [enV, ← List.append_assoc] at Kont Exit
      refine node (d + 1) p hp k s ls n h1 (by omega) f1 hE hpre h103 hJ hnM (fun h2 f2 e2 g2 hJ2 => ?_) (fun h2 bc bp f2 e2 g2 hE2 hJ2 hal hfi j1 j2 hcb => ?_)
      · refine ihk s _ n h2 (by omega) f2 (fun q hq => by rw [(e2 q hq).2]; exact hE q hq) hpre g2 hJ2 hnM (fun h3 n3 f3 e3 hJ3 hn3 => ?_) Exit
        exact Kont h3 n3 f3 (fun q hq => ⟨(e3 q hq).1.trans (e2 q hq).1, (e3 q hq).2.trans (e2 q hq).2⟩) hJ3 hn3
      · obtain ⟨hS2, hm2, hP2⟩ := hsh h2 f2
        have c0 := hS2.1
        have c103 := hS2.2.2.1.2.1
        have s13 := hS2.2.2.2.2.2.1
        have hp7 : p < 7 := by omega
        have hn6 : n < 1000000 := by omega
        have fh3 : FH h2 (sI h2 103 (p + 1) (-1)) := FH.w (by omega)
        have e3a : ∀ q, q < p + 1 → gI (sI h2 103 (p + 1) (-1)) 103 q = gI h2 103 q ∧ gI (sI h2 103 (p + 1) (-1)) 104 q = gI h2 104 q := fun q hq => ⟨by rw [mI_s2 _ _ (Or.inr (by omega))], by rw [mI_s2 _ _ (Or.inl (by omega))]⟩
        have e105 : gI (sI h2 103 (p + 1) (-1)) 105 = gI h2 105 := by funext j; rw [mI_s2 _ _ (Or.inl (by omega))]
        have hlist : enV (fun v => (enum d (up (up s p k) (p + 1) v)).filter (PLb A S AL)) 5 = (enum (d + 1) (up s p k)).filter (PLb A S AL) := by rw [enum_s, enV_filter, show 7 - d = p + 1 by omega]
        have hpre2 : ∀ q, q < p + 1 → up s p k q < 5 ∧ AL q (up s p k q) = true ∧ fitB A S (up s p k) q = true := fun q hq => by
          by_cases e : q = p
          · rw [e, up_s]; exact ⟨by omega, hal, hfi⟩
          · obtain ⟨g1, g2', g3⟩ := hpre q (by omega)
            rw [up_n _ _ e, fitB_c hA (s := s) (fun x hx => up_n _ _ (by omega))]
            exact ⟨g1, g2', g3⟩
        have hnx := ihd (p + 1) (by omega) 5 (up s p k) ls n (sI h2 103 (p + 1) (-1)) (by omega) (f2.tr fh3) (fun q hq => by rw [(e3a q hq).2]; exact hE2 q hq) hpre2 (by rw [mI_s1]; rfl) (hJ2.o (by rw [mI_s2 _ _ (Or.inl (by omega))]) (by rw [mI_s2 _ _ (Or.inl (by omega))]) e105) hnM (fun h4 n4 f4 e4 hJ4 hn4 => by
          rw [hlist] at hJ4
          have hr := ihk s _ n4 h4 (by omega) f4 (fun q hq => by rw [(e4 q (by omega)).2, (e3a q (by omega)).2, (e2 q hq).2]; exact hE q hq) hpre (by rw [(e4 p (by omega)).1, (e3a p (by omega)).1]; exact g2) hJ4 hn4 (fun h5 n5 f5 e5 hJ5 hn5 => Kont h5 n5 f5 (fun q hq => ⟨(e5 q hq).1.trans ((e4 q (by omega)).1.trans ((e3a q (by omega)).1.trans (e2 q hq).1)), (e5 q hq).2.trans ((e4 q (by omega)).2.trans ((e3a q (by omega)).2.trans (e2 q hq).2))⟩) hJ5 hn5) Exit
          rw [show (((p + 1 : Nat) : Int) - 1) = (p : Int) by omega]
          exact hr) (fun h4 f4 hb0 hle => Exit h4 f4 hb0 (by
          rw [hlist] at hle
          rw [List.length_append] at hle ⊢
          rw [List.length_append]
          omega))
        refine z_run1 tsX8_finds [24] 30 ?_
        simp (maxSteps := 1000000) -implicitDefEqProofs +contextual (disch := omega) only [z_wp_t, z_wp_u, ↓pI_e, ↓pL_e, ↓pO_e, ↓pR_e, ↓p1_I, ↓p1_O, z_gl, z_st1, z_st2, z_nl_I, z_nl_O, z_nl_J, z_nl_L, if_true, if_false, ite_true, ite_false, true_and, and_true, List.mem_cons, List.not_mem_nil, or_false, false_or, or_self, List.length_cons, List.length_nil, InR_t, InL_t, z_ix_t, mI_s1, mI_s2, ↓brT, ↓brF, ↓brT', ↓brF', mL_sI, mR_sI, mK_sI, mS_sI, mI_sL, mL_s1, mL_s2, mR_sL, mK_sL, mS_sL, mI_sR, mL_sR, mR_s1, mR_s2, mK_sR, mS_sR, mA_s1, mA_s2, mL_sA, mR_sA, mK_sA, mS_sA, ix_n, ix_a, ix_m, ix_s, z_sw, z_stop, forall_const, true_implies, false_implies, imp_self, implies_true, not_true_eq_false, not_false_eq_true, ne_eq, eq_self, Option.some.injEq, reduceCtorEq, Nat.reduceAdd, Nat.reduceSub, Nat.reduceMul, Nat.reduceEqDiff, Nat.reduceLT, Nat.reduceLeDiff, Int.reduceAdd, Int.reduceMul, Int.reduceSub, Int.reduceNeg, Int.reduceToNat, Int.reduceLT, Int.reduceLE, Int.reduceEq, ↓reduceIte, List.reverse_cons, Option.toList, List.cons_append, List.nil_append, vI_inj, vL_inj, vO_inj, rI, rL, rO, rV, mI_sQ, mL_sQ, mK_sQ, mS_sQ, mQ_s1, mQ_s2, iL_and, iL_or, iL_xor, iL_shl, iL_ushr, iR_and, iR_or, iR_xor, iR_shl, iR_shr, iR_ushr, iR_cmp, yc0, tlX8_finds, tkX8_finds, o_aload, o_dup2, o_getR, o_goto, o_iadd, o_iald, o_iand, o_iast, o_ic, o_icge, o_icle, o_icne, o_ifeq, o_iflt, o_iinc, o_iload, o_iret, o_ishr, o_istore, o_isub, o_putI, c0, c103, s13]
        try simp +contextual (disch := omega) only [impF, impT, and_true, true_and, implies_true, not_false_eq_true, not_true_eq_false]
        refine x_wk [vR 93, vI M, vI b, vI n, vI ((p + 1 : Nat) : Int), vJ] (by simp [z_wk]) ?_
        exact hnx
set_option maxRecDepth 4000 in
set_option maxHeartbeats 4000000 in
theorem sm_finds (l : Launch) (G : zG) (h : zH) (M : Nat) (b : Int) (A : zA) (S : Nat → Bool) (AL : Nat → Nat → Bool) (hS : ShM h) (hm : MA (gI h 94) A) (hA : AOK A) (hP : PrOK h A S AL) (hAL : ∀ p v, p < 8 → v < 5 → AL p v = true → v ≤ aN A p) (hb : b = 0 ∨ b = 1) (hM : 1 ≤ M ∧ M ≤ 1000000) (hM1 : b = 1 → 91 ≤ M) (lv : Nat) (hlv : 4 ≤ lv) : z_Sp l G mtX8_finds lv 0 0 [vR 93, vI M, vI b] (h) (fun r h' => ∃ n : Nat, r = some (vI n) ∧ FH h h' ∧ (b = 0 → n = min M ((enum 8 s0).filter (PLb A S AL)).length) ∧ (b = 1 → JF A 1 n h' ((enum 8 s0).filter (PLb A S AL)))) := by
  refine x_enter [vR 93, vI M, vI b, vJ, vJ, vJ] (by decide +kernel) (by omega) rfl (Nat.le_of_ble_eq_true rfl) ?_
  generalize hQ : (fun (r : Option zV) (h' : zH) => ∃ n : Nat, r = some (vI n) ∧ FH h h' ∧ (b = 0 → n = min M ((enum 8 s0).filter (PLb A S AL)).length) ∧ (b = 1 → JF A 1 n h' ((enum 8 s0).filter (PLb A S AL)))) = QQ
  have dfs := fn_dfs l G h QQ M b A S AL hS hm hA hP hAL hb hM hM1 lv hlv
  have k0 := hS.1
  have k103 := hS.2.2.1.2.1
  have r13 := hS.2.2.2.2.2.1
  have f3 : FH h (sI (sI (sI h 93 16 9) 93 17 9) 103 0 (-1)) := by
    refine ⟨((Fr.sI (fun c => c = 93 ∨ (103 ≤ c ∧ c ≤ 105)) _ _ _ _ (Or.inl rfl)).tr' (Fr.sI (fun c => c = 93 ∨ (103 ≤ c ∧ c ≤ 105)) _ _ _ _ (Or.inl rfl)) (fun _ q => q) (fun _ q => q)).tr' (Fr.sI (fun c => c = 93 ∨ (103 ≤ c ∧ c ≤ 105)) _ _ _ _ (by omega)) (fun _ q => q) (fun _ q => q), rfl, fun j q1 q2 => ?_, rfl⟩
    rw [mI_s2 _ _ (Or.inl (by omega)), mI_s2 _ _ (Or.inr q2), mI_s2 _ _ (Or.inr q1)]
  have e16 : gI (sI (sI (sI h 93 16 9) 93 17 9) 103 0 (-1)) 93 16 = ((9 : Nat) : Int) := by rw [mI_s2 _ _ (Or.inl (by omega)), mI_s2 _ _ (Or.inr (by omega)), mI_s1]; rfl
  have e17 : gI (sI (sI (sI h 93 16 9) 93 17 9) 103 0 (-1)) 93 17 = ((9 : Nat) : Int) := by rw [mI_s2 _ _ (Or.inl (by omega)), mI_s1]; rfl
  have e103 : gI (sI (sI (sI h 93 16 9) 93 17 9) 103 0 (-1)) 103 0 = -1 := mI_s1 _ _ _ _
  have hstart : z_X l G mtX8_finds lv 0 0 QQ 0 0 (sI (sI (sI h 93 16 9) 93 17 9) 103 0 (-1)) 24 [vR 93, vI M, vI b, vI 0, vI 0, vJ] [] := by
    generalize sI (sI (sI h 93 16 9) 93 17 9) 103 0 (-1) = h3 at *
    have hlist : enV (fun v => (enum 7 (up s0 0 v)).filter (PLb A S AL)) 5 = (enum 8 s0).filter (PLb A S AL) := by rw [enum_s, enV_filter]
    refine dfs 7 0 rfl 5 s0 [] 0 h3 (by omega) f3 (fun q hq => by omega) (fun q hq => by omega) (by rw [e103]; rfl) ⟨fun _ => rfl, 9, 9, e16, e17, by omega, by omega, fun _ => ⟨fun _ => ⟨rfl, rfl, rfl⟩, fun t ht => by cases ht⟩⟩ (by omega) (fun h4 n4 f4 e4 hJ4 hn4 => ?_) (fun h4 f4 hb0 hle => ?_)
    · rw [List.nil_append, hlist] at hJ4
      have hn6 : n4 < 1000000 := by omega
      refine z_run1 tsX8_finds [] 20 ?_
      simp (maxSteps := 1000000) -implicitDefEqProofs +contextual (disch := omega) only [z_wp_t, z_wp_u, ↓pI_e, ↓pL_e, ↓pO_e, ↓pR_e, ↓p1_I, ↓p1_O, z_gl, z_st1, z_st2, z_nl_I, z_nl_O, z_nl_J, z_nl_L, if_true, if_false, ite_true, ite_false, true_and, and_true, List.mem_cons, List.not_mem_nil, or_false, false_or, or_self, List.length_cons, List.length_nil, InR_t, InL_t, z_ix_t, mI_s1, mI_s2, ↓brT, ↓brF, ↓brT', ↓brF', mL_sI, mR_sI, mK_sI, mS_sI, mI_sL, mL_s1, mL_s2, mR_sL, mK_sL, mS_sL, mI_sR, mL_sR, mR_s1, mR_s2, mK_sR, mS_sR, mA_s1, mA_s2, mL_sA, mR_sA, mK_sA, mS_sA, ix_n, ix_a, ix_m, ix_s, z_sw, z_stop, forall_const, true_implies, false_implies, imp_self, implies_true, not_true_eq_false, not_false_eq_true, ne_eq, eq_self, Option.some.injEq, reduceCtorEq, Nat.reduceAdd, Nat.reduceSub, Nat.reduceMul, Nat.reduceEqDiff, Nat.reduceLT, Nat.reduceLeDiff, Int.reduceAdd, Int.reduceMul, Int.reduceSub, Int.reduceNeg, Int.reduceToNat, Int.reduceLT, Int.reduceLE, Int.reduceEq, ↓reduceIte, List.reverse_cons, Option.toList, List.cons_append, List.nil_append, vI_inj, vL_inj, vO_inj, rI, rL, rO, rV, mI_sQ, mL_sQ, mK_sQ, mS_sQ, mQ_s1, mQ_s2, iL_and, iL_or, iL_xor, iL_shl, iL_ushr, iR_and, iR_or, iR_xor, iR_shl, iR_shr, iR_ushr, iR_cmp, yc0, tlX8_finds, tkX8_finds, o_aload, o_dup2, o_getR, o_goto, o_iadd, o_iald, o_iand, o_iast, o_ic, o_icge, o_icle, o_icne, o_ifeq, o_iflt, o_iinc, o_iload, o_iret, o_ishr, o_istore, o_isub, o_putI]
      try simp +contextual (disch := omega) only [impF, impT, and_true, true_and, implies_true, not_false_eq_true, not_true_eq_false]
      rw [← hQ]
      refine ⟨n4, rfl, f4, fun q => ?_, fun q => by rw [q] at hJ4; exact hJ4⟩
      have := hJ4.1 q
      omega
    · rw [List.nil_append, hlist] at hle
      rw [← hQ]
      exact ⟨M, rfl, f4, fun _ => by omega, fun q => by omega⟩
  refine z_run1 tsX8_finds [24] 30 ?_
  simp (maxSteps := 1000000) -implicitDefEqProofs +contextual (disch := omega) only [z_wp_t, z_wp_u, ↓pI_e, ↓pL_e, ↓pO_e, ↓pR_e, ↓p1_I, ↓p1_O, z_gl, z_st1, z_st2, z_nl_I, z_nl_O, z_nl_J, z_nl_L, if_true, if_false, ite_true, ite_false, true_and, and_true, List.mem_cons, List.not_mem_nil, or_false, false_or, or_self, List.length_cons, List.length_nil, InR_t, InL_t, z_ix_t, mI_s1, mI_s2, ↓brT, ↓brF, ↓brT', ↓brF', mL_sI, mR_sI, mK_sI, mS_sI, mI_sL, mL_s1, mL_s2, mR_sL, mK_sL, mS_sL, mI_sR, mL_sR, mR_s1, mR_s2, mK_sR, mS_sR, mA_s1, mA_s2, mL_sA, mR_sA, mK_sA, mS_sA, ix_n, ix_a, ix_m, ix_s, z_sw, z_stop, forall_const, true_implies, false_implies, imp_self, implies_true, not_true_eq_false, not_false_eq_true, ne_eq, eq_self, Option.some.injEq, reduceCtorEq, Nat.reduceAdd, Nat.reduceSub, Nat.reduceMul, Nat.reduceEqDiff, Nat.reduceLT, Nat.reduceLeDiff, Int.reduceAdd, Int.reduceMul, Int.reduceSub, Int.reduceNeg, Int.reduceToNat, Int.reduceLT, Int.reduceLE, Int.reduceEq, ↓reduceIte, List.reverse_cons, Option.toList, List.cons_append, List.nil_append, vI_inj, vL_inj, vO_inj, rI, rL, rO, rV, mI_sQ, mL_sQ, mK_sQ, mS_sQ, mQ_s1, mQ_s2, iL_and, iL_or, iL_xor, iL_shl, iL_ushr, iR_and, iR_or, iR_xor, iR_shl, iR_shr, iR_ushr, iR_cmp, yc0, tlX8_finds, tkX8_finds, o_aload, o_dup2, o_getR, o_goto, o_iadd, o_iald, o_iand, o_iast, o_ic, o_icge, o_icle, o_icne, o_ifeq, o_iflt, o_iinc, o_iload, o_iret, o_ishr, o_istore, o_isub, o_putI, k0, k103, r13]
  try simp +contextual (disch := omega) only [impF, impT, and_true, true_and, implies_true, not_false_eq_true, not_true_eq_false]
  exact hstart
