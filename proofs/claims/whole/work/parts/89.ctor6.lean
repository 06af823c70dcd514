/-! the reference's constructor -/
def slM : Nat → Nat
  | 0 => 0
  | 1 => 1
  | 2 => 3
  | 3 => 5
  | 4 => 6
  | 5 => 9
  | 6 => 10
  | 7 => 11
  | 8 => 12
  | 9 => 13
  | 10 => 14
  | 11 => 15
  | 12 => 18
  | 13 => 19
  | _ => 20
def kdM : Nat → Nat × Nat
  | 0 => (9, 1410)
  | 1 => (9, 14100)
  | 2 => (9, 40)
  | 3 => (9, 68)
  | 4 => (9, 32)
  | 5 => (9, 20)
  | 6 => (9, 20)
  | 7 => (11, 20)
  | 8 => (9, 8)
  | 9 => (9, 8)
  | 10 => (9, 8)
  | 11 => (9, 8)
  | 12 => (9, 20)
  | 13 => (9, 20)
  | _ => (9, 8)
/-- nothing yet -/
def A0 : zA := ((fun _ => 0, fun _ _ => 0, fun _ => -1), (0, 0), fun _ => ((0, -1, 0, 0), fun _ => false, fun _ => false))
def s0S : zS := (A0, [], fun _ => 0, 0)
theorem A0_ok : AOK A0 := by
  refine ⟨fun p _ => ?_, fun p i _ hi => ?_, fun p i _ hi => ?_, fun p _ => ?_, ?_, ?_, fun r hr => ?_⟩
  · show 0 ≤ 4
    omega
  · exact absurd hi (Nat.not_lt_zero i)
  · exact absurd hi (Nat.not_lt_zero (i + 1))
  · show -1 ≤ (-1 : Int) ∧ (-1 : Int) ≤ 999
    omega
  · show 0 ≤ 20
    omega
  · show (0 : Int) ≤ 0 ∧ (0 : Int) ≤ 31
    omega
  · exact absurd hr (Nat.not_lt_zero r)
set_option maxRecDepth 4000 in
set_option maxHeartbeats 4000000 in
theorem sm_init (l : Launch) (G : zG) (h : zH) (k0 : (gK h 93).1 = 8) (hq : gS h = 94) (hz : ∀ k, gI h 93 k = 0) (lv : Nat) (hlv : 2 ≤ lv) : z_Sp l G mtX8_init lv 15 15790 [vR 93] (h) (fun r h' => r = none ∧ gS h' = 109 ∧ (∀ a, a < 93 → Sa h h' a) ∧ MI h' s0S) := by
  refine x_enter [vR 93, vJ] (by decide +kernel) (by omega) rfl (Nat.le_of_ble_eq_true rfl) ?_
  generalize hQ : (fun (r : Option zV) (h' : zH) => r = none ∧ gS h' = 109 ∧ (∀ a, a < 93 → Sa h h' a) ∧ MI h' s0S) = QQ
  have a0 : Ar h h 93 94 0 slM kdM := Ar.z hq
  have fin : ∀ h4, Ar h h4 93 94 15 slM kdM → z_X l G mtX8_init lv 15 15790 (QQ) (15) (15790) (h4) 126 [vR 93, vJ] [] := by
    intro h4 hA
    obtain ⟨a1, a2, a3, a4, a5, a6⟩ := hA
    have c0 : (gK h4 93).1 = 8 := by rw [a3]; exact k0
    have s0 : gR h4 93 0 = some 94 := (a6 0 (by omega)).2.1
    have c94 : gK h4 94 = (9, 1410) := (a6 0 (by omega)).1
    have hlo : ∀ (d i : Nat) (g : Nat → Int), i + d = 8 → (∀ k, g k = if 41 ≤ k ∧ k < 41 + i then -1 else 0) → z_X l G mtX8_init lv 15 15790 (QQ) (15) (15790) (sA h4 94 g) 128 [vR 93, vI i] [] := by
      intro d
      induction d with
      | zero =>
        intro i g hi hg
        obtain rfl : i = 8 := by omega
        have hfin : QQ none (sA h4 94 g) := by
          rw [← hQ]
          have sm : ∀ a, a ≠ 94 → Sa h4 (sA h4 94 g) a := fun a ha => Sa.a ha
          have hS4 : ShM h4 := by
            refine ⟨c0, ⟨?_, ?_, ?_, ?_, ?_, ?_, ?_, ?_⟩, ⟨?_, ?_, ?_, ?_, ?_, ?_, ?_⟩, ⟨?_, ?_, ?_, ?_, ?_, ?_, ?_, ?_⟩, ?_, ?_, ?_, ?_, ?_, ?_, ?_⟩
            · exact (a6 0 (by omega)).1
            · exact (a6 1 (by omega)).1
            · exact (a6 2 (by omega)).1
            · exact (a6 3 (by omega)).1
            · exact (a6 4 (by omega)).1
            · exact (a6 5 (by omega)).1
            · exact (a6 6 (by omega)).1
            · exact (a6 7 (by omega)).1
            · exact (a6 8 (by omega)).1
            · exact (a6 9 (by omega)).1
            · exact (a6 10 (by omega)).1
            · exact (a6 11 (by omega)).1
            · exact (a6 12 (by omega)).1
            · exact (a6 13 (by omega)).1
            · exact (a6 14 (by omega)).1
            · exact (a6 0 (by omega)).2.1
            · exact (a6 1 (by omega)).2.1
            · exact (a6 2 (by omega)).2.1
            · exact (a6 3 (by omega)).2.1
            · exact (a6 4 (by omega)).2.1
            · exact (a6 5 (by omega)).2.1
            · exact (a6 6 (by omega)).2.1
            · exact (a6 7 (by omega)).2.1
            · exact (a6 8 (by omega)).2.1
            · exact (a6 9 (by omega)).2.1
            · exact (a6 10 (by omega)).2.1
            · exact (a6 11 (by omega)).2.1
            · exact (a6 12 (by omega)).2.1
            · exact (a6 13 (by omega)).2.1
            · exact (a6 14 (by omega)).2.1
          have hS5 : ShM (sA h4 94 g) := hS4.of (mK_sA _ _ _) rfl
          have i93 : ∀ k, gI (sA h4 94 g) 93 k = 0 := fun k => by rw [mA_s2 _ _ _ (by omega), a4]; exact hz k
          have hm : MA (gI (sA h4 94 g) 94) A0 := by
            refine ⟨fun p hp => ?_, fun p i hp hi => absurd hi (Nat.not_lt_zero i), ?_, fun p hp => ?_, ?_, fun r hr => absurd hr (Nat.not_lt_zero r)⟩
            · rw [mA_s1, hg, if_neg (by omega)]; rfl
            · rw [mA_s1, hg, if_neg (by omega)]; rfl
            · rw [mA_s1, hg, if_pos (by omega)]; rfl
            · rw [mA_s1, hg, if_neg (by omega)]; rfl
          refine ⟨rfl, by rw [mS_sA, a1], fun a ha => (a2 a (by omega) (by omega)).tr (sm a (by omega)), hS5, hm, ⟨i93 2, by simp [s0S, sHs], fun j A hj => by simp [s0S, sHs] at hj⟩, ⟨i93 4, by simp [s0S, sTn], fun i hi => absurd hi (Nat.not_lt_zero i), fun i hi => absurd hi (Nat.not_lt_zero i)⟩, A0_ok⟩
        clear hg a2 a5 a6 hQ hz
        refine z_run1 tsX8_init [] 20 ?_
        simp (maxSteps := 1000000) -implicitDefEqProofs +contextual (disch := omega) only [z_wp_t, z_wp_u, ↓pI_e, ↓pL_e, ↓pO_e, ↓pR_e, ↓p1_I, ↓p1_O, z_gl, z_st1, z_st2, z_nl_I, z_nl_O, z_nl_J, z_nl_L, if_true, if_false, ite_true, ite_false, true_and, and_true, List.mem_cons, List.not_mem_nil, or_false, false_or, or_self, List.length_cons, List.length_nil, InR_t, InL_t, z_ix_t, mI_s1, mI_s2, ↓brT, ↓brF, ↓brT', ↓brF', mL_sI, mR_sI, mK_sI, mS_sI, mI_sL, mL_s1, mL_s2, mR_sL, mK_sL, mS_sL, mI_sR, mL_sR, mR_s1, mR_s2, mK_sR, mS_sR, mA_s1, mA_s2, mL_sA, mR_sA, mK_sA, mS_sA, ix_n, ix_a, ix_m, ix_s, z_sw, z_stop, forall_const, true_implies, false_implies, imp_self, implies_true, not_true_eq_false, not_false_eq_true, ne_eq, eq_self, Option.some.injEq, reduceCtorEq, Nat.reduceAdd, Nat.reduceSub, Nat.reduceMul, Nat.reduceEqDiff, Nat.reduceLT, Nat.reduceLeDiff, Int.reduceAdd, Int.reduceMul, Int.reduceSub, Int.reduceNeg, Int.reduceToNat, Int.reduceLT, Int.reduceLE, Int.reduceEq, ↓reduceIte, List.reverse_cons, Option.toList, List.cons_append, List.nil_append, vI_inj, vL_inj, vO_inj, rI, rL, rO, rV, mI_sQ, mL_sQ, mK_sQ, mS_sQ, mQ_s1, mQ_s2, iL_and, iL_or, iL_xor, iL_shl, iL_ushr, iR_and, iR_or, iR_xor, iR_shl, iR_shr, iR_ushr, iR_cmp, yc0, tlX8_init, tkX8_init, o_aload, o_getR, o_goto, o_iadd, o_iast, o_ic, o_icge, o_iinc, o_iload, o_istore, o_oinit, o_putR, o_vret]
        try simp +contextual (disch := omega) only [impF, impT, and_true, true_and, implies_true, not_false_eq_true, not_true_eq_false]
        exact hfin
      | succ d ih =>
        intro i g hi hg
        have hnx := ih (i + 1) (up g (41 + i) (-1)) (by omega) (fun k => by
          by_cases e : k = 41 + i
          · rw [e, up_s, if_pos (by omega)]
          · rw [up_n _ _ e, hg k]
            by_cases w : 41 ≤ k ∧ k < 41 + i
            · rw [if_pos w, if_pos (by omega)]
            · rw [if_neg w, if_neg (by omega)])
        clear ih hg a2 a5 a6 hz
        refine z_run1 tsX8_init [128] 20 ?_
        simp (maxSteps := 1000000) -implicitDefEqProofs +contextual (disch := omega) only [z_wp_t, z_wp_u, ↓pI_e, ↓pL_e, ↓pO_e, ↓pR_e, ↓p1_I, ↓p1_O, z_gl, z_st1, z_st2, z_nl_I, z_nl_O, z_nl_J, z_nl_L, if_true, if_false, ite_true, ite_false, true_and, and_true, List.mem_cons, List.not_mem_nil, or_false, false_or, or_self, List.length_cons, List.length_nil, InR_t, InL_t, z_ix_t, mI_s1, mI_s2, ↓brT, ↓brF, ↓brT', ↓brF', mL_sI, mR_sI, mK_sI, mS_sI, mI_sL, mL_s1, mL_s2, mR_sL, mK_sL, mS_sL, mI_sR, mL_sR, mR_s1, mR_s2, mK_sR, mS_sR, mA_s1, mA_s2, mL_sA, mR_sA, mK_sA, mS_sA, ix_n, ix_a, ix_m, ix_s, z_sw, z_stop, forall_const, true_implies, false_implies, imp_self, implies_true, not_true_eq_false, not_false_eq_true, ne_eq, eq_self, Option.some.injEq, reduceCtorEq, Nat.reduceAdd, Nat.reduceSub, Nat.reduceMul, Nat.reduceEqDiff, Nat.reduceLT, Nat.reduceLeDiff, Int.reduceAdd, Int.reduceMul, Int.reduceSub, Int.reduceNeg, Int.reduceToNat, Int.reduceLT, Int.reduceLE, Int.reduceEq, ↓reduceIte, List.reverse_cons, Option.toList, List.cons_append, List.nil_append, vI_inj, vL_inj, vO_inj, rI, rL, rO, rV, mI_sQ, mL_sQ, mK_sQ, mS_sQ, mQ_s1, mQ_s2, iL_and, iL_or, iL_xor, iL_shl, iL_ushr, iR_and, iR_or, iR_xor, iR_shl, iR_shr, iR_ushr, iR_cmp, yc0, tlX8_init, tkX8_init, o_aload, o_getR, o_goto, o_iadd, o_iast, o_ic, o_icge, o_iinc, o_iload, o_istore, o_oinit, o_putR, o_vret, c0, s0, c94, sI_sA]
        try simp +contextual (disch := omega) only [impF, impT, and_true, true_and, implies_true, not_false_eq_true, not_true_eq_false]
        exact hnx
    have h0 := hlo 8 0 (gI h4 94) (by omega) (fun k => by rw [if_neg (by omega)]; exact (a6 0 (by omega)).2.2.1 k)
    rw [sA_self] at h0
    clear hlo a2 a5 a6 hz
    refine z_run1 tsX8_init [128] 20 ?_
    simp (maxSteps := 1000000) -implicitDefEqProofs +contextual (disch := omega) only [z_wp_t, z_wp_u, ↓pI_e, ↓pL_e, ↓pO_e, ↓pR_e, ↓p1_I, ↓p1_O, z_gl, z_st1, z_st2, z_nl_I, z_nl_O, z_nl_J, z_nl_L, if_true, if_false, ite_true, ite_false, true_and, and_true, List.mem_cons, List.not_mem_nil, or_false, false_or, or_self, List.length_cons, List.length_nil, InR_t, InL_t, z_ix_t, mI_s1, mI_s2, ↓brT, ↓brF, ↓brT', ↓brF', mL_sI, mR_sI, mK_sI, mS_sI, mI_sL, mL_s1, mL_s2, mR_sL, mK_sL, mS_sL, mI_sR, mL_sR, mR_s1, mR_s2, mK_sR, mS_sR, mA_s1, mA_s2, mL_sA, mR_sA, mK_sA, mS_sA, ix_n, ix_a, ix_m, ix_s, z_sw, z_stop, forall_const, true_implies, false_implies, imp_self, implies_true, not_true_eq_false, not_false_eq_true, ne_eq, eq_self, Option.some.injEq, reduceCtorEq, Nat.reduceAdd, Nat.reduceSub, Nat.reduceMul, Nat.reduceEqDiff, Nat.reduceLT, Nat.reduceLeDiff, Int.reduceAdd, Int.reduceMul, Int.reduceSub, Int.reduceNeg, Int.reduceToNat, Int.reduceLT, Int.reduceLE, Int.reduceEq, ↓reduceIte, List.reverse_cons, Option.toList, List.cons_append, List.nil_append, vI_inj, vL_inj, vO_inj, rI, rL, rO, rV, mI_sQ, mL_sQ, mK_sQ, mS_sQ, mQ_s1, mQ_s2, iL_and, iL_or, iL_xor, iL_shl, iL_ushr, iR_and, iR_or, iR_xor, iR_shl, iR_shr, iR_ushr, iR_cmp, yc0, tlX8_init, tkX8_init, o_aload, o_getR, o_goto, o_iadd, o_iast, o_ic, o_icge, o_iinc, o_iload, o_istore, o_oinit, o_putR, o_vret]
    try simp +contextual (disch := omega) only [impF, impT, and_true, true_and, implies_true, not_false_eq_true, not_true_eq_false]
    exact h0
  clear hQ hz
  refine z_run1 tsX8_init [] 20 ?_
  simp (maxSteps := 1000000) -implicitDefEqProofs +contextual (disch := omega) only [z_wp_t, z_wp_u, ↓pI_e, ↓pL_e, ↓pO_e, ↓pR_e, ↓p1_I, ↓p1_O, z_gl, z_st1, z_st2, z_nl_I, z_nl_O, z_nl_J, z_nl_L, if_true, if_false, ite_true, ite_false, true_and, and_true, List.mem_cons, List.not_mem_nil, or_false, false_or, or_self, List.length_cons, List.length_nil, InR_t, InL_t, z_ix_t, mI_s1, mI_s2, ↓brT, ↓brF, ↓brT', ↓brF', mL_sI, mR_sI, mK_sI, mS_sI, mI_sL, mL_s1, mL_s2, mR_sL, mK_sL, mS_sL, mI_sR, mL_sR, mR_s1, mR_s2, mK_sR, mS_sR, mA_s1, mA_s2, mL_sA, mR_sA, mK_sA, mS_sA, ix_n, ix_a, ix_m, ix_s, z_sw, z_stop, forall_const, true_implies, false_implies, imp_self, implies_true, not_true_eq_false, not_false_eq_true, ne_eq, eq_self, Option.some.injEq, reduceCtorEq, Nat.reduceAdd, Nat.reduceSub, Nat.reduceMul, Nat.reduceEqDiff, Nat.reduceLT, Nat.reduceLeDiff, Int.reduceAdd, Int.reduceMul, Int.reduceSub, Int.reduceNeg, Int.reduceToNat, Int.reduceLT, Int.reduceLE, Int.reduceEq, ↓reduceIte, List.reverse_cons, Option.toList, List.cons_append, List.nil_append, vI_inj, vL_inj, vO_inj, rI, rL, rO, rV, mI_sQ, mL_sQ, mK_sQ, mS_sQ, mQ_s1, mQ_s2, iL_and, iL_or, iL_xor, iL_shl, iL_ushr, iR_and, iR_or, iR_xor, iR_shl, iR_shr, iR_ushr, iR_cmp, yc0, tlX8_init, tkX8_init, o_aload, o_getR, o_goto, o_iadd, o_iast, o_ic, o_icge, o_iinc, o_iload, o_istore, o_oinit, o_putR, o_vret]
  try simp +contextual (disch := omega) only [impF, impT, and_true, true_and, implies_true, not_false_eq_true, not_true_eq_false]
  have hne : 93 ≠ gS h := by have := a0.1; omega
  have kk0 : (gK h 93).1 = 8 := by rw [a0.2.2.1]; exact k0
  refine x_newai 1410 (by decide +kernel) ar_int (by omega) (by omega) (by omega) ?_
  have a1 := a0.st (by omega) (by decide) (9, 1410) 0 rfl rfl
  refine z_run1 tsX8_init [] 30 ?_
  simp (maxSteps := 1000000) -implicitDefEqProofs +contextual (disch := omega) only [z_wp_t, z_wp_u, ↓pI_e, ↓pL_e, ↓pO_e, ↓pR_e, ↓p1_I, ↓p1_O, z_gl, z_st1, z_st2, z_nl_I, z_nl_O, z_nl_J, z_nl_L, if_true, if_false, ite_true, ite_false, true_and, and_true, List.mem_cons, List.not_mem_nil, or_false, false_or, or_self, List.length_cons, List.length_nil, InR_t, InL_t, z_ix_t, mI_s1, mI_s2, ↓brT, ↓brF, ↓brT', ↓brF', mL_sI, mR_sI, mK_sI, mS_sI, mI_sL, mL_s1, mL_s2, mR_sL, mK_sL, mS_sL, mI_sR, mL_sR, mR_s1, mR_s2, mK_sR, mS_sR, mA_s1, mA_s2, mL_sA, mR_sA, mK_sA, mS_sA, ix_n, ix_a, ix_m, ix_s, z_sw, z_stop, forall_const, true_implies, false_implies, imp_self, implies_true, not_true_eq_false, not_false_eq_true, ne_eq, eq_self, Option.some.injEq, reduceCtorEq, Nat.reduceAdd, Nat.reduceSub, Nat.reduceMul, Nat.reduceEqDiff, Nat.reduceLT, Nat.reduceLeDiff, Int.reduceAdd, Int.reduceMul, Int.reduceSub, Int.reduceNeg, Int.reduceToNat, Int.reduceLT, Int.reduceLE, Int.reduceEq, ↓reduceIte, List.reverse_cons, Option.toList, List.cons_append, List.nil_append, vI_inj, vL_inj, vO_inj, rI, rL, rO, rV, mI_sQ, mL_sQ, mK_sQ, mS_sQ, mQ_s1, mQ_s2, iL_and, iL_or, iL_xor, iL_shl, iL_ushr, iR_and, iR_or, iR_xor, iR_shl, iR_shr, iR_ushr, iR_cmp, yc0, tlX8_init, tkX8_init, o_aload, o_getR, o_goto, o_iadd, o_iast, o_ic, o_icge, o_iinc, o_iload, o_istore, o_oinit, o_putR, o_vret, mK_n2, kk0]
  try simp +contextual (disch := omega) only [impF, impT, and_true, true_and, implies_true, not_false_eq_true, not_true_eq_false]
  generalize sR (nC h (9, 1410)) 93 0 (some (gS h)) = h1 at *
  have hne : 93 ≠ gS h1 := by have := a1.1; omega
  have kk1 : (gK h1 93).1 = 8 := by rw [a1.2.2.1]; exact k0
  refine x_newai 14100 (by decide +kernel) ar_int (by omega) (by omega) (by omega) ?_
  have a2 := a1.st (by omega) (by decide) (9, 14100) 1 rfl rfl
  refine z_run1 tsX8_init [] 30 ?_
  simp (maxSteps := 1000000) -implicitDefEqProofs +contextual (disch := omega) only [z_wp_t, z_wp_u, ↓pI_e, ↓pL_e, ↓pO_e, ↓pR_e, ↓p1_I, ↓p1_O, z_gl, z_st1, z_st2, z_nl_I, z_nl_O, z_nl_J, z_nl_L, if_true, if_false, ite_true, ite_false, true_and, and_true, List.mem_cons, List.not_mem_nil, or_false, false_or, or_self, List.length_cons, List.length_nil, InR_t, InL_t, z_ix_t, mI_s1, mI_s2, ↓brT, ↓brF, ↓brT', ↓brF', mL_sI, mR_sI, mK_sI, mS_sI, mI_sL, mL_s1, mL_s2, mR_sL, mK_sL, mS_sL, mI_sR, mL_sR, mR_s1, mR_s2, mK_sR, mS_sR, mA_s1, mA_s2, mL_sA, mR_sA, mK_sA, mS_sA, ix_n, ix_a, ix_m, ix_s, z_sw, z_stop, forall_const, true_implies, false_implies, imp_self, implies_true, not_true_eq_false, not_false_eq_true, ne_eq, eq_self, Option.some.injEq, reduceCtorEq, Nat.reduceAdd, Nat.reduceSub, Nat.reduceMul, Nat.reduceEqDiff, Nat.reduceLT, Nat.reduceLeDiff, Int.reduceAdd, Int.reduceMul, Int.reduceSub, Int.reduceNeg, Int.reduceToNat, Int.reduceLT, Int.reduceLE, Int.reduceEq, ↓reduceIte, List.reverse_cons, Option.toList, List.cons_append, List.nil_append, vI_inj, vL_inj, vO_inj, rI, rL, rO, rV, mI_sQ, mL_sQ, mK_sQ, mS_sQ, mQ_s1, mQ_s2, iL_and, iL_or, iL_xor, iL_shl, iL_ushr, iR_and, iR_or, iR_xor, iR_shl, iR_shr, iR_ushr, iR_cmp, yc0, tlX8_init, tkX8_init, o_aload, o_getR, o_goto, o_iadd, o_iast, o_ic, o_icge, o_iinc, o_iload, o_istore, o_oinit, o_putR, o_vret, mK_n2, kk1]
  try simp +contextual (disch := omega) only [impF, impT, and_true, true_and, implies_true, not_false_eq_true, not_true_eq_false]
  generalize sR (nC h1 (9, 14100)) 93 1 (some (gS h1)) = h2 at *
  have hne : 93 ≠ gS h2 := by have := a2.1; omega
  have kk2 : (gK h2 93).1 = 8 := by rw [a2.2.2.1]; exact k0
  refine x_newai 40 (by decide +kernel) ar_int (by omega) (by omega) (by omega) ?_
  have a3 := a2.st (by omega) (by decide) (9, 40) 3 rfl rfl
  refine z_run1 tsX8_init [] 30 ?_
  simp (maxSteps := 1000000) -implicitDefEqProofs +contextual (disch := omega) only [z_wp_t, z_wp_u, ↓pI_e, ↓pL_e, ↓pO_e, ↓pR_e, ↓p1_I, ↓p1_O, z_gl, z_st1, z_st2, z_nl_I, z_nl_O, z_nl_J, z_nl_L, if_true, if_false, ite_true, ite_false, true_and, and_true, List.mem_cons, List.not_mem_nil, or_false, false_or, or_self, List.length_cons, List.length_nil, InR_t, InL_t, z_ix_t, mI_s1, mI_s2, ↓brT, ↓brF, ↓brT', ↓brF', mL_sI, mR_sI, mK_sI, mS_sI, mI_sL, mL_s1, mL_s2, mR_sL, mK_sL, mS_sL, mI_sR, mL_sR, mR_s1, mR_s2, mK_sR, mS_sR, mA_s1, mA_s2, mL_sA, mR_sA, mK_sA, mS_sA, ix_n, ix_a, ix_m, ix_s, z_sw, z_stop, forall_const, true_implies, false_implies, imp_self, implies_true, not_true_eq_false, not_false_eq_true, ne_eq, eq_self, Option.some.injEq, reduceCtorEq, Nat.reduceAdd, Nat.reduceSub, Nat.reduceMul, Nat.reduceEqDiff, Nat.reduceLT, Nat.reduceLeDiff, Int.reduceAdd, Int.reduceMul, Int.reduceSub, Int.reduceNeg, Int.reduceToNat, Int.reduceLT, Int.reduceLE, Int.reduceEq, ↓reduceIte, List.reverse_cons, Option.toList, List.cons_append, List.nil_append, vI_inj, vL_inj, vO_inj, rI, rL, rO, rV, mI_sQ, mL_sQ, mK_sQ, mS_sQ, mQ_s1, mQ_s2, iL_and, iL_or, iL_xor, iL_shl, iL_ushr, iR_and, iR_or, iR_xor, iR_shl, iR_shr, iR_ushr, iR_cmp, yc0, tlX8_init, tkX8_init, o_aload, o_getR, o_goto, o_iadd, o_iast, o_ic, o_icge, o_iinc, o_iload, o_istore, o_oinit, o_putR, o_vret, mK_n2, kk2]
  try simp +contextual (disch := omega) only [impF, impT, and_true, true_and, implies_true, not_false_eq_true, not_true_eq_false]
  generalize sR (nC h2 (9, 40)) 93 3 (some (gS h2)) = h3 at *
  have hne : 93 ≠ gS h3 := by have := a3.1; omega
  have kk3 : (gK h3 93).1 = 8 := by rw [a3.2.2.1]; exact k0
  refine x_newai 68 (by decide +kernel) ar_int (by omega) (by omega) (by omega) ?_
  have a4 := a3.st (by omega) (by decide) (9, 68) 5 rfl rfl
  refine z_run1 tsX8_init [] 30 ?_
  simp (maxSteps := 1000000) -implicitDefEqProofs +contextual (disch := omega) only [z_wp_t, z_wp_u, ↓pI_e, ↓pL_e, ↓pO_e, ↓pR_e, ↓p1_I, ↓p1_O, z_gl, z_st1, z_st2, z_nl_I, z_nl_O, z_nl_J, z_nl_L, if_true, if_false, ite_true, ite_false, true_and, and_true, List.mem_cons, List.not_mem_nil, or_false, false_or, or_self, List.length_cons, List.length_nil, InR_t, InL_t, z_ix_t, mI_s1, mI_s2, ↓brT, ↓brF, ↓brT', ↓brF', mL_sI, mR_sI, mK_sI, mS_sI, mI_sL, mL_s1, mL_s2, mR_sL, mK_sL, mS_sL, mI_sR, mL_sR, mR_s1, mR_s2, mK_sR, mS_sR, mA_s1, mA_s2, mL_sA, mR_sA, mK_sA, mS_sA, ix_n, ix_a, ix_m, ix_s, z_sw, z_stop, forall_const, true_implies, false_implies, imp_self, implies_true, not_true_eq_false, not_false_eq_true, ne_eq, eq_self, Option.some.injEq, reduceCtorEq, Nat.reduceAdd, Nat.reduceSub, Nat.reduceMul, Nat.reduceEqDiff, Nat.reduceLT, Nat.reduceLeDiff, Int.reduceAdd, Int.reduceMul, Int.reduceSub, Int.reduceNeg, Int.reduceToNat, Int.reduceLT, Int.reduceLE, Int.reduceEq, ↓reduceIte, List.reverse_cons, Option.toList, List.cons_append, List.nil_append, vI_inj, vL_inj, vO_inj, rI, rL, rO, rV, mI_sQ, mL_sQ, mK_sQ, mS_sQ, mQ_s1, mQ_s2, iL_and, iL_or, iL_xor, iL_shl, iL_ushr, iR_and, iR_or, iR_xor, iR_shl, iR_shr, iR_ushr, iR_cmp, yc0, tlX8_init, tkX8_init, o_aload, o_getR, o_goto, o_iadd, o_iast, o_ic, o_icge, o_iinc, o_iload, o_istore, o_oinit, o_putR, o_vret, mK_n2, kk3]
  try simp +contextual (disch := omega) only [impF, impT, and_true, true_and, implies_true, not_false_eq_true, not_true_eq_false]
  generalize sR (nC h3 (9, 68)) 93 5 (some (gS h3)) = h4 at *
  have hne : 93 ≠ gS h4 := by have := a4.1; omega
  have kk4 : (gK h4 93).1 = 8 := by rw [a4.2.2.1]; exact k0
  refine x_newai 32 (by decide +kernel) ar_int (by omega) (by omega) (by omega) ?_
  have a5 := a4.st (by omega) (by decide) (9, 32) 6 rfl rfl
  refine z_run1 tsX8_init [] 30 ?_
  simp (maxSteps := 1000000) -implicitDefEqProofs +contextual (disch := omega) only [z_wp_t, z_wp_u, ↓pI_e, ↓pL_e, ↓pO_e, ↓pR_e, ↓p1_I, ↓p1_O, z_gl, z_st1, z_st2, z_nl_I, z_nl_O, z_nl_J, z_nl_L, if_true, if_false, ite_true, ite_false, true_and, and_true, List.mem_cons, List.not_mem_nil, or_false, false_or, or_self, List.length_cons, List.length_nil, InR_t, InL_t, z_ix_t, mI_s1, mI_s2, ↓brT, ↓brF, ↓brT', ↓brF', mL_sI, mR_sI, mK_sI, mS_sI, mI_sL, mL_s1, mL_s2, mR_sL, mK_sL, mS_sL, mI_sR, mL_sR, mR_s1, mR_s2, mK_sR, mS_sR, mA_s1, mA_s2, mL_sA, mR_sA, mK_sA, mS_sA, ix_n, ix_a, ix_m, ix_s, z_sw, z_stop, forall_const, true_implies, false_implies, imp_self, implies_true, not_true_eq_false, not_false_eq_true, ne_eq, eq_self, Option.some.injEq, reduceCtorEq, Nat.reduceAdd, Nat.reduceSub, Nat.reduceMul, Nat.reduceEqDiff, Nat.reduceLT, Nat.reduceLeDiff, Int.reduceAdd, Int.reduceMul, Int.reduceSub, Int.reduceNeg, Int.reduceToNat, Int.reduceLT, Int.reduceLE, Int.reduceEq, ↓reduceIte, List.reverse_cons, Option.toList, List.cons_append, List.nil_append, vI_inj, vL_inj, vO_inj, rI, rL, rO, rV, mI_sQ, mL_sQ, mK_sQ, mS_sQ, mQ_s1, mQ_s2, iL_and, iL_or, iL_xor, iL_shl, iL_ushr, iR_and, iR_or, iR_xor, iR_shl, iR_shr, iR_ushr, iR_cmp, yc0, tlX8_init, tkX8_init, o_aload, o_getR, o_goto, o_iadd, o_iast, o_ic, o_icge, o_iinc, o_iload, o_istore, o_oinit, o_putR, o_vret, mK_n2, kk4]
  try simp +contextual (disch := omega) only [impF, impT, and_true, true_and, implies_true, not_false_eq_true, not_true_eq_false]
  generalize sR (nC h4 (9, 32)) 93 6 (some (gS h4)) = h5 at *
  have hne : 93 ≠ gS h5 := by have := a5.1; omega
  have kk5 : (gK h5 93).1 = 8 := by rw [a5.2.2.1]; exact k0
  refine x_newai 20 (by decide +kernel) ar_int (by omega) (by omega) (by omega) ?_
  have a6 := a5.st (by omega) (by decide) (9, 20) 9 rfl rfl
  refine z_run1 tsX8_init [] 30 ?_
  simp (maxSteps := 1000000) -implicitDefEqProofs +contextual (disch := omega) only [z_wp_t, z_wp_u, ↓pI_e, ↓pL_e, ↓pO_e, ↓pR_e, ↓p1_I, ↓p1_O, z_gl, z_st1, z_st2, z_nl_I, z_nl_O, z_nl_J, z_nl_L, if_true, if_false, ite_true, ite_false, true_and, and_true, List.mem_cons, List.not_mem_nil, or_false, false_or, or_self, List.length_cons, List.length_nil, InR_t, InL_t, z_ix_t, mI_s1, mI_s2, ↓brT, ↓brF, ↓brT', ↓brF', mL_sI, mR_sI, mK_sI, mS_sI, mI_sL, mL_s1, mL_s2, mR_sL, mK_sL, mS_sL, mI_sR, mL_sR, mR_s1, mR_s2, mK_sR, mS_sR, mA_s1, mA_s2, mL_sA, mR_sA, mK_sA, mS_sA, ix_n, ix_a, ix_m, ix_s, z_sw, z_stop, forall_const, true_implies, false_implies, imp_self, implies_true, not_true_eq_false, not_false_eq_true, ne_eq, eq_self, Option.some.injEq, reduceCtorEq, Nat.reduceAdd, Nat.reduceSub, Nat.reduceMul, Nat.reduceEqDiff, Nat.reduceLT, Nat.reduceLeDiff, Int.reduceAdd, Int.reduceMul, Int.reduceSub, Int.reduceNeg, Int.reduceToNat, Int.reduceLT, Int.reduceLE, Int.reduceEq, ↓reduceIte, List.reverse_cons, Option.toList, List.cons_append, List.nil_append, vI_inj, vL_inj, vO_inj, rI, rL, rO, rV, mI_sQ, mL_sQ, mK_sQ, mS_sQ, mQ_s1, mQ_s2, iL_and, iL_or, iL_xor, iL_shl, iL_ushr, iR_and, iR_or, iR_xor, iR_shl, iR_shr, iR_ushr, iR_cmp, yc0, tlX8_init, tkX8_init, o_aload, o_getR, o_goto, o_iadd, o_iast, o_ic, o_icge, o_iinc, o_iload, o_istore, o_oinit, o_putR, o_vret, mK_n2, kk5]
  try simp +contextual (disch := omega) only [impF, impT, and_true, true_and, implies_true, not_false_eq_true, not_true_eq_false]
  generalize sR (nC h5 (9, 20)) 93 9 (some (gS h5)) = h6 at *
  have hne : 93 ≠ gS h6 := by have := a6.1; omega
  have kk6 : (gK h6 93).1 = 8 := by rw [a6.2.2.1]; exact k0
  refine x_newai 20 (by decide +kernel) ar_int (by omega) (by omega) (by omega) ?_
  have a7 := a6.st (by omega) (by decide) (9, 20) 10 rfl rfl
  refine z_run1 tsX8_init [] 30 ?_
  simp (maxSteps := 1000000) -implicitDefEqProofs +contextual (disch := omega) only [z_wp_t, z_wp_u, ↓pI_e, ↓pL_e, ↓pO_e, ↓pR_e, ↓p1_I, ↓p1_O, z_gl, z_st1, z_st2, z_nl_I, z_nl_O, z_nl_J, z_nl_L, if_true, if_false, ite_true, ite_false, true_and, and_true, List.mem_cons, List.not_mem_nil, or_false, false_or, or_self, List.length_cons, List.length_nil, InR_t, InL_t, z_ix_t, mI_s1, mI_s2, ↓brT, ↓brF, ↓brT', ↓brF', mL_sI, mR_sI, mK_sI, mS_sI, mI_sL, mL_s1, mL_s2, mR_sL, mK_sL, mS_sL, mI_sR, mL_sR, mR_s1, mR_s2, mK_sR, mS_sR, mA_s1, mA_s2, mL_sA, mR_sA, mK_sA, mS_sA, ix_n, ix_a, ix_m, ix_s, z_sw, z_stop, forall_const, true_implies, false_implies, imp_self, implies_true, not_true_eq_false, not_false_eq_true, ne_eq, eq_self, Option.some.injEq, reduceCtorEq, Nat.reduceAdd, Nat.reduceSub, Nat.reduceMul, Nat.reduceEqDiff, Nat.reduceLT, Nat.reduceLeDiff, Int.reduceAdd, Int.reduceMul, Int.reduceSub, Int.reduceNeg, Int.reduceToNat, Int.reduceLT, Int.reduceLE, Int.reduceEq, ↓reduceIte, List.reverse_cons, Option.toList, List.cons_append, List.nil_append, vI_inj, vL_inj, vO_inj, rI, rL, rO, rV, mI_sQ, mL_sQ, mK_sQ, mS_sQ, mQ_s1, mQ_s2, iL_and, iL_or, iL_xor, iL_shl, iL_ushr, iR_and, iR_or, iR_xor, iR_shl, iR_shr, iR_ushr, iR_cmp, yc0, tlX8_init, tkX8_init, o_aload, o_getR, o_goto, o_iadd, o_iast, o_ic, o_icge, o_iinc, o_iload, o_istore, o_oinit, o_putR, o_vret, mK_n2, kk6]
  try simp +contextual (disch := omega) only [impF, impT, and_true, true_and, implies_true, not_false_eq_true, not_true_eq_false]
  generalize sR (nC h6 (9, 20)) 93 10 (some (gS h6)) = h7 at *
  have hne : 93 ≠ gS h7 := by have := a7.1; omega
  have kk7 : (gK h7 93).1 = 8 := by rw [a7.2.2.1]; exact k0
  refine x_newaz 20 (by decide +kernel) ar_boolean (by omega) (by omega) (by omega) ?_
  have a8 := a7.st (by omega) (by decide) (11, 20) 11 rfl rfl
  refine z_run1 tsX8_init [] 30 ?_
  simp (maxSteps := 1000000) -implicitDefEqProofs +contextual (disch := omega) only [z_wp_t, z_wp_u, ↓pI_e, ↓pL_e, ↓pO_e, ↓pR_e, ↓p1_I, ↓p1_O, z_gl, z_st1, z_st2, z_nl_I, z_nl_O, z_nl_J, z_nl_L, if_true, if_false, ite_true, ite_false, true_and, and_true, List.mem_cons, List.not_mem_nil, or_false, false_or, or_self, List.length_cons, List.length_nil, InR_t, InL_t, z_ix_t, mI_s1, mI_s2, ↓brT, ↓brF, ↓brT', ↓brF', mL_sI, mR_sI, mK_sI, mS_sI, mI_sL, mL_s1, mL_s2, mR_sL, mK_sL, mS_sL, mI_sR, mL_sR, mR_s1, mR_s2, mK_sR, mS_sR, mA_s1, mA_s2, mL_sA, mR_sA, mK_sA, mS_sA, ix_n, ix_a, ix_m, ix_s, z_sw, z_stop, forall_const, true_implies, false_implies, imp_self, implies_true, not_true_eq_false, not_false_eq_true, ne_eq, eq_self, Option.some.injEq, reduceCtorEq, Nat.reduceAdd, Nat.reduceSub, Nat.reduceMul, Nat.reduceEqDiff, Nat.reduceLT, Nat.reduceLeDiff, Int.reduceAdd, Int.reduceMul, Int.reduceSub, Int.reduceNeg, Int.reduceToNat, Int.reduceLT, Int.reduceLE, Int.reduceEq, ↓reduceIte, List.reverse_cons, Option.toList, List.cons_append, List.nil_append, vI_inj, vL_inj, vO_inj, rI, rL, rO, rV, mI_sQ, mL_sQ, mK_sQ, mS_sQ, mQ_s1, mQ_s2, iL_and, iL_or, iL_xor, iL_shl, iL_ushr, iR_and, iR_or, iR_xor, iR_shl, iR_shr, iR_ushr, iR_cmp, yc0, tlX8_init, tkX8_init, o_aload, o_getR, o_goto, o_iadd, o_iast, o_ic, o_icge, o_iinc, o_iload, o_istore, o_oinit, o_putR, o_vret, mK_n2, kk7]
  try simp +contextual (disch := omega) only [impF, impT, and_true, true_and, implies_true, not_false_eq_true, not_true_eq_false]
  generalize sR (nC h7 (11, 20)) 93 11 (some (gS h7)) = h8 at *
  have hne : 93 ≠ gS h8 := by have := a8.1; omega
  have kk8 : (gK h8 93).1 = 8 := by rw [a8.2.2.1]; exact k0
  refine x_newai 8 (by decide +kernel) ar_int (by omega) (by omega) (by omega) ?_
  have a9 := a8.st (by omega) (by decide) (9, 8) 12 rfl rfl
  refine z_run1 tsX8_init [] 30 ?_
  simp (maxSteps := 1000000) -implicitDefEqProofs +contextual (disch := omega) only [z_wp_t, z_wp_u, ↓pI_e, ↓pL_e, ↓pO_e, ↓pR_e, ↓p1_I, ↓p1_O, z_gl, z_st1, z_st2, z_nl_I, z_nl_O, z_nl_J, z_nl_L, if_true, if_false, ite_true, ite_false, true_and, and_true, List.mem_cons, List.not_mem_nil, or_false, false_or, or_self, List.length_cons, List.length_nil, InR_t, InL_t, z_ix_t, mI_s1, mI_s2, ↓brT, ↓brF, ↓brT', ↓brF', mL_sI, mR_sI, mK_sI, mS_sI, mI_sL, mL_s1, mL_s2, mR_sL, mK_sL, mS_sL, mI_sR, mL_sR, mR_s1, mR_s2, mK_sR, mS_sR, mA_s1, mA_s2, mL_sA, mR_sA, mK_sA, mS_sA, ix_n, ix_a, ix_m, ix_s, z_sw, z_stop, forall_const, true_implies, false_implies, imp_self, implies_true, not_true_eq_false, not_false_eq_true, ne_eq, eq_self, Option.some.injEq, reduceCtorEq, Nat.reduceAdd, Nat.reduceSub, Nat.reduceMul, Nat.reduceEqDiff, Nat.reduceLT, Nat.reduceLeDiff, Int.reduceAdd, Int.reduceMul, Int.reduceSub, Int.reduceNeg, Int.reduceToNat, Int.reduceLT, Int.reduceLE, Int.reduceEq, ↓reduceIte, List.reverse_cons, Option.toList, List.cons_append, List.nil_append, vI_inj, vL_inj, vO_inj, rI, rL, rO, rV, mI_sQ, mL_sQ, mK_sQ, mS_sQ, mQ_s1, mQ_s2, iL_and, iL_or, iL_xor, iL_shl, iL_ushr, iR_and, iR_or, iR_xor, iR_shl, iR_shr, iR_ushr, iR_cmp, yc0, tlX8_init, tkX8_init, o_aload, o_getR, o_goto, o_iadd, o_iast, o_ic, o_icge, o_iinc, o_iload, o_istore, o_oinit, o_putR, o_vret, mK_n2, kk8]
  try simp +contextual (disch := omega) only [impF, impT, and_true, true_and, implies_true, not_false_eq_true, not_true_eq_false]
  generalize sR (nC h8 (9, 8)) 93 12 (some (gS h8)) = h9 at *
  have hne : 93 ≠ gS h9 := by have := a9.1; omega
  have kk9 : (gK h9 93).1 = 8 := by rw [a9.2.2.1]; exact k0
  refine x_newai 8 (by decide +kernel) ar_int (by omega) (by omega) (by omega) ?_
  have a10 := a9.st (by omega) (by decide) (9, 8) 13 rfl rfl
  refine z_run1 tsX8_init [] 30 ?_
  simp (maxSteps := 1000000) -implicitDefEqProofs +contextual (disch := omega) only [z_wp_t, z_wp_u, ↓pI_e, ↓pL_e, ↓pO_e, ↓pR_e, ↓p1_I, ↓p1_O, z_gl, z_st1, z_st2, z_nl_I, z_nl_O, z_nl_J, z_nl_L, if_true, if_false, ite_true, ite_false, true_and, and_true, List.mem_cons, List.not_mem_nil, or_false, false_or, or_self, List.length_cons, List.length_nil, InR_t, InL_t, z_ix_t, mI_s1, mI_s2, ↓brT, ↓brF, ↓brT', ↓brF', mL_sI, mR_sI, mK_sI, mS_sI, mI_sL, mL_s1, mL_s2, mR_sL, mK_sL, mS_sL, mI_sR, mL_sR, mR_s1, mR_s2, mK_sR, mS_sR, mA_s1, mA_s2, mL_sA, mR_sA, mK_sA, mS_sA, ix_n, ix_a, ix_m, ix_s, z_sw, z_stop, forall_const, true_implies, false_implies, imp_self, implies_true, not_true_eq_false, not_false_eq_true, ne_eq, eq_self, Option.some.injEq, reduceCtorEq, Nat.reduceAdd, Nat.reduceSub, Nat.reduceMul, Nat.reduceEqDiff, Nat.reduceLT, Nat.reduceLeDiff, Int.reduceAdd, Int.reduceMul, Int.reduceSub, Int.reduceNeg, Int.reduceToNat, Int.reduceLT, Int.reduceLE, Int.reduceEq, ↓reduceIte, List.reverse_cons, Option.toList, List.cons_append, List.nil_append, vI_inj, vL_inj, vO_inj, rI, rL, rO, rV, mI_sQ, mL_sQ, mK_sQ, mS_sQ, mQ_s1, mQ_s2, iL_and, iL_or, iL_xor, iL_shl, iL_ushr, iR_and, iR_or, iR_xor, iR_shl, iR_shr, iR_ushr, iR_cmp, yc0, tlX8_init, tkX8_init, o_aload, o_getR, o_goto, o_iadd, o_iast, o_ic, o_icge, o_iinc, o_iload, o_istore, o_oinit, o_putR, o_vret, mK_n2, kk9]
  try simp +contextual (disch := omega) only [impF, impT, and_true, true_and, implies_true, not_false_eq_true, not_true_eq_false]
  generalize sR (nC h9 (9, 8)) 93 13 (some (gS h9)) = h10 at *
  have hne : 93 ≠ gS h10 := by have := a10.1; omega
  have kk10 : (gK h10 93).1 = 8 := by rw [a10.2.2.1]; exact k0
  refine x_newai 8 (by decide +kernel) ar_int (by omega) (by omega) (by omega) ?_
  have a11 := a10.st (by omega) (by decide) (9, 8) 14 rfl rfl
  refine z_run1 tsX8_init [] 30 ?_
  simp (maxSteps := 1000000) -implicitDefEqProofs +contextual (disch := omega) only [z_wp_t, z_wp_u, ↓pI_e, ↓pL_e, ↓pO_e, ↓pR_e, ↓p1_I, ↓p1_O, z_gl, z_st1, z_st2, z_nl_I, z_nl_O, z_nl_J, z_nl_L, if_true, if_false, ite_true, ite_false, true_and, and_true, List.mem_cons, List.not_mem_nil, or_false, false_or, or_self, List.length_cons, List.length_nil, InR_t, InL_t, z_ix_t, mI_s1, mI_s2, ↓brT, ↓brF, ↓brT', ↓brF', mL_sI, mR_sI, mK_sI, mS_sI, mI_sL, mL_s1, mL_s2, mR_sL, mK_sL, mS_sL, mI_sR, mL_sR, mR_s1, mR_s2, mK_sR, mS_sR, mA_s1, mA_s2, mL_sA, mR_sA, mK_sA, mS_sA, ix_n, ix_a, ix_m, ix_s, z_sw, z_stop, forall_const, true_implies, false_implies, imp_self, implies_true, not_true_eq_false, not_false_eq_true, ne_eq, eq_self, Option.some.injEq, reduceCtorEq, Nat.reduceAdd, Nat.reduceSub, Nat.reduceMul, Nat.reduceEqDiff, Nat.reduceLT, Nat.reduceLeDiff, Int.reduceAdd, Int.reduceMul, Int.reduceSub, Int.reduceNeg, Int.reduceToNat, Int.reduceLT, Int.reduceLE, Int.reduceEq, ↓reduceIte, List.reverse_cons, Option.toList, List.cons_append, List.nil_append, vI_inj, vL_inj, vO_inj, rI, rL, rO, rV, mI_sQ, mL_sQ, mK_sQ, mS_sQ, mQ_s1, mQ_s2, iL_and, iL_or, iL_xor, iL_shl, iL_ushr, iR_and, iR_or, iR_xor, iR_shl, iR_shr, iR_ushr, iR_cmp, yc0, tlX8_init, tkX8_init, o_aload, o_getR, o_goto, o_iadd, o_iast, o_ic, o_icge, o_iinc, o_iload, o_istore, o_oinit, o_putR, o_vret, mK_n2, kk10]
  try simp +contextual (disch := omega) only [impF, impT, and_true, true_and, implies_true, not_false_eq_true, not_true_eq_false]
  generalize sR (nC h10 (9, 8)) 93 14 (some (gS h10)) = h11 at *
  have hne : 93 ≠ gS h11 := by have := a11.1; omega
  have kk11 : (gK h11 93).1 = 8 := by rw [a11.2.2.1]; exact k0
  refine x_newai 8 (by decide +kernel) ar_int (by omega) (by omega) (by omega) ?_
  have a12 := a11.st (by omega) (by decide) (9, 8) 15 rfl rfl
  refine z_run1 tsX8_init [] 30 ?_
  simp (maxSteps := 1000000) -implicitDefEqProofs +contextual (disch := omega) only [z_wp_t, z_wp_u, ↓pI_e, ↓pL_e, ↓pO_e, ↓pR_e, ↓p1_I, ↓p1_O, z_gl, z_st1, z_st2, z_nl_I, z_nl_O, z_nl_J, z_nl_L, if_true, if_false, ite_true, ite_false, true_and, and_true, List.mem_cons, List.not_mem_nil, or_false, false_or, or_self, List.length_cons, List.length_nil, InR_t, InL_t, z_ix_t, mI_s1, mI_s2, ↓brT, ↓brF, ↓brT', ↓brF', mL_sI, mR_sI, mK_sI, mS_sI, mI_sL, mL_s1, mL_s2, mR_sL, mK_sL, mS_sL, mI_sR, mL_sR, mR_s1, mR_s2, mK_sR, mS_sR, mA_s1, mA_s2, mL_sA, mR_sA, mK_sA, mS_sA, ix_n, ix_a, ix_m, ix_s, z_sw, z_stop, forall_const, true_implies, false_implies, imp_self, implies_true, not_true_eq_false, not_false_eq_true, ne_eq, eq_self, Option.some.injEq, reduceCtorEq, Nat.reduceAdd, Nat.reduceSub, Nat.reduceMul, Nat.reduceEqDiff, Nat.reduceLT, Nat.reduceLeDiff, Int.reduceAdd, Int.reduceMul, Int.reduceSub, Int.reduceNeg, Int.reduceToNat, Int.reduceLT, Int.reduceLE, Int.reduceEq, ↓reduceIte, List.reverse_cons, Option.toList, List.cons_append, List.nil_append, vI_inj, vL_inj, vO_inj, rI, rL, rO, rV, mI_sQ, mL_sQ, mK_sQ, mS_sQ, mQ_s1, mQ_s2, iL_and, iL_or, iL_xor, iL_shl, iL_ushr, iR_and, iR_or, iR_xor, iR_shl, iR_shr, iR_ushr, iR_cmp, yc0, tlX8_init, tkX8_init, o_aload, o_getR, o_goto, o_iadd, o_iast, o_ic, o_icge, o_iinc, o_iload, o_istore, o_oinit, o_putR, o_vret, mK_n2, kk11]
  try simp +contextual (disch := omega) only [impF, impT, and_true, true_and, implies_true, not_false_eq_true, not_true_eq_false]
  generalize sR (nC h11 (9, 8)) 93 15 (some (gS h11)) = h12 at *
  have hne : 93 ≠ gS h12 := by have := a12.1; omega
  have kk12 : (gK h12 93).1 = 8 := by rw [a12.2.2.1]; exact k0
  refine x_newai 20 (by decide +kernel) ar_int (by omega) (by omega) (by omega) ?_
  have a13 := a12.st (by omega) (by decide) (9, 20) 18 rfl rfl
  refine z_run1 tsX8_init [] 30 ?_
  simp (maxSteps := 1000000) -implicitDefEqProofs +contextual (disch := omega) only [z_wp_t, z_wp_u, ↓pI_e, ↓pL_e, ↓pO_e, ↓pR_e, ↓p1_I, ↓p1_O, z_gl, z_st1, z_st2, z_nl_I, z_nl_O, z_nl_J, z_nl_L, if_true, if_false, ite_true, ite_false, true_and, and_true, List.mem_cons, List.not_mem_nil, or_false, false_or, or_self, List.length_cons, List.length_nil, InR_t, InL_t, z_ix_t, mI_s1, mI_s2, ↓brT, ↓brF, ↓brT', ↓brF', mL_sI, mR_sI, mK_sI, mS_sI, mI_sL, mL_s1, mL_s2, mR_sL, mK_sL, mS_sL, mI_sR, mL_sR, mR_s1, mR_s2, mK_sR, mS_sR, mA_s1, mA_s2, mL_sA, mR_sA, mK_sA, mS_sA, ix_n, ix_a, ix_m, ix_s, z_sw, z_stop, forall_const, true_implies, false_implies, imp_self, implies_true, not_true_eq_false, not_false_eq_true, ne_eq, eq_self, Option.some.injEq, reduceCtorEq, Nat.reduceAdd, Nat.reduceSub, Nat.reduceMul, Nat.reduceEqDiff, Nat.reduceLT, Nat.reduceLeDiff, Int.reduceAdd, Int.reduceMul, Int.reduceSub, Int.reduceNeg, Int.reduceToNat, Int.reduceLT, Int.reduceLE, Int.reduceEq, ↓reduceIte, List.reverse_cons, Option.toList, List.cons_append, List.nil_append, vI_inj, vL_inj, vO_inj, rI, rL, rO, rV, mI_sQ, mL_sQ, mK_sQ, mS_sQ, mQ_s1, mQ_s2, iL_and, iL_or, iL_xor, iL_shl, iL_ushr, iR_and, iR_or, iR_xor, iR_shl, iR_shr, iR_ushr, iR_cmp, yc0, tlX8_init, tkX8_init, o_aload, o_getR, o_goto, o_iadd, o_iast, o_ic, o_icge, o_iinc, o_iload, o_istore, o_oinit, o_putR, o_vret, mK_n2, kk12]
  try simp +contextual (disch := omega) only [impF, impT, and_true, true_and, implies_true, not_false_eq_true, not_true_eq_false]
  generalize sR (nC h12 (9, 20)) 93 18 (some (gS h12)) = h13 at *
  have hne : 93 ≠ gS h13 := by have := a13.1; omega
  have kk13 : (gK h13 93).1 = 8 := by rw [a13.2.2.1]; exact k0
  refine x_newai 20 (by decide +kernel) ar_int (by omega) (by omega) (by omega) ?_
  have a14 := a13.st (by omega) (by decide) (9, 20) 19 rfl rfl
  refine z_run1 tsX8_init [] 30 ?_
  simp (maxSteps := 1000000) -implicitDefEqProofs +contextual (disch := omega) only [z_wp_t, z_wp_u, ↓pI_e, ↓pL_e, ↓pO_e, ↓pR_e, ↓p1_I, ↓p1_O, z_gl, z_st1, z_st2, z_nl_I, z_nl_O, z_nl_J, z_nl_L, if_true, if_false, ite_true, ite_false, true_and, and_true, List.mem_cons, List.not_mem_nil, or_false, false_or, or_self, List.length_cons, List.length_nil, InR_t, InL_t, z_ix_t, mI_s1, mI_s2, ↓brT, ↓brF, ↓brT', ↓brF', mL_sI, mR_sI, mK_sI, mS_sI, mI_sL, mL_s1, mL_s2, mR_sL, mK_sL, mS_sL, mI_sR, mL_sR, mR_s1, mR_s2, mK_sR, mS_sR, mA_s1, mA_s2, mL_sA, mR_sA, mK_sA, mS_sA, ix_n, ix_a, ix_m, ix_s, z_sw, z_stop, forall_const, true_implies, false_implies, imp_self, implies_true, not_true_eq_false, not_false_eq_true, ne_eq, eq_self, Option.some.injEq, reduceCtorEq, Nat.reduceAdd, Nat.reduceSub, Nat.reduceMul, Nat.reduceEqDiff, Nat.reduceLT, Nat.reduceLeDiff, Int.reduceAdd, Int.reduceMul, Int.reduceSub, Int.reduceNeg, Int.reduceToNat, Int.reduceLT, Int.reduceLE, Int.reduceEq, ↓reduceIte, List.reverse_cons, Option.toList, List.cons_append, List.nil_append, vI_inj, vL_inj, vO_inj, rI, rL, rO, rV, mI_sQ, mL_sQ, mK_sQ, mS_sQ, mQ_s1, mQ_s2, iL_and, iL_or, iL_xor, iL_shl, iL_ushr, iR_and, iR_or, iR_xor, iR_shl, iR_shr, iR_ushr, iR_cmp, yc0, tlX8_init, tkX8_init, o_aload, o_getR, o_goto, o_iadd, o_iast, o_ic, o_icge, o_iinc, o_iload, o_istore, o_oinit, o_putR, o_vret, mK_n2, kk13]
  try simp +contextual (disch := omega) only [impF, impT, and_true, true_and, implies_true, not_false_eq_true, not_true_eq_false]
  generalize sR (nC h13 (9, 20)) 93 19 (some (gS h13)) = h14 at *
  have hne : 93 ≠ gS h14 := by have := a14.1; omega
  have kk14 : (gK h14 93).1 = 8 := by rw [a14.2.2.1]; exact k0
  refine x_newai 8 (by decide +kernel) ar_int (by omega) (by omega) (by omega) ?_
  have a15 := a14.st (by omega) (by decide) (9, 8) 20 rfl rfl
  have fin := fin _ a15
  refine z_run1 tsX8_init [126] 30 ?_
  simp (maxSteps := 1000000) -implicitDefEqProofs +contextual (disch := omega) only [z_wp_t, z_wp_u, ↓pI_e, ↓pL_e, ↓pO_e, ↓pR_e, ↓p1_I, ↓p1_O, z_gl, z_st1, z_st2, z_nl_I, z_nl_O, z_nl_J, z_nl_L, if_true, if_false, ite_true, ite_false, true_and, and_true, List.mem_cons, List.not_mem_nil, or_false, false_or, or_self, List.length_cons, List.length_nil, InR_t, InL_t, z_ix_t, mI_s1, mI_s2, ↓brT, ↓brF, ↓brT', ↓brF', mL_sI, mR_sI, mK_sI, mS_sI, mI_sL, mL_s1, mL_s2, mR_sL, mK_sL, mS_sL, mI_sR, mL_sR, mR_s1, mR_s2, mK_sR, mS_sR, mA_s1, mA_s2, mL_sA, mR_sA, mK_sA, mS_sA, ix_n, ix_a, ix_m, ix_s, z_sw, z_stop, forall_const, true_implies, false_implies, imp_self, implies_true, not_true_eq_false, not_false_eq_true, ne_eq, eq_self, Option.some.injEq, reduceCtorEq, Nat.reduceAdd, Nat.reduceSub, Nat.reduceMul, Nat.reduceEqDiff, Nat.reduceLT, Nat.reduceLeDiff, Int.reduceAdd, Int.reduceMul, Int.reduceSub, Int.reduceNeg, Int.reduceToNat, Int.reduceLT, Int.reduceLE, Int.reduceEq, ↓reduceIte, List.reverse_cons, Option.toList, List.cons_append, List.nil_append, vI_inj, vL_inj, vO_inj, rI, rL, rO, rV, mI_sQ, mL_sQ, mK_sQ, mS_sQ, mQ_s1, mQ_s2, iL_and, iL_or, iL_xor, iL_shl, iL_ushr, iR_and, iR_or, iR_xor, iR_shl, iR_shr, iR_ushr, iR_cmp, yc0, tlX8_init, tkX8_init, o_aload, o_getR, o_goto, o_iadd, o_iast, o_ic, o_icge, o_iinc, o_iload, o_istore, o_oinit, o_putR, o_vret, mK_n2, kk14]
  try simp +contextual (disch := omega) only [impF, impT, and_true, true_and, implies_true, not_false_eq_true, not_true_eq_false]
  exact fin
theorem StE.ok {h : zH} {q : Nat} (hE : StE h q) : StOK h q A0 := by
  obtain ⟨b1, b2, b3, b4, b5, b6, b7, b8, b9, b10, b11, b12, b13, b14⟩ := hE
  refine ⟨⟨b1, b2, b3, b4, b5, b6, b7, b8, b9, fun r x hx => by rw [b10 r] at hx; cases hx⟩, fun p hp => b11 p, fun p i hp hi => absurd hi (Nat.not_lt_zero i), fun p hp => b12 p hp, b13, b14, fun r hr => absurd hr (Nat.not_lt_zero r)⟩
theorem VrE.ok {h : zH} (hE : VrE h) (hg : 109 ≤ gS h) : CI h s0S := by
  obtain ⟨b1, b2, b3, b4, b5, b6, b7, ⟨o1, o2, o3, o4, o5, o6, o7, o8⟩, ⟨p1, p2, p3, -⟩, ⟨h1, h2, h3, h4, h5, h6, h7⟩, ⟨t1, t2, t3, t4, t5, t6, t7, t8⟩⟩ := hE
  refine ⟨⟨b1, b2, b3, b4, b5, b6, b7⟩, ⟨⟨o1, o2.ok, ?_⟩, Or.inl o4, Or.inl o5, Or.inl o6, Or.inl o7, Or.inl o8⟩, A0_ok, ⟨p1, p2.ok.1, ?_⟩, ⟨⟨h1, h2, h3, h4, fun i hi => (h5 i hi).ok.1⟩, by simp [s0S, sHs], ?_, 0, by omega, h6, fun j A hj => by simp [s0S, sHs] at hj⟩, ⟨⟨t1, t2, t3, t4, t5, by simp [s0S, sTn], t6, fun i hi => absurd hi (Nat.not_lt_zero i), fun i hi => absurd hi (Nat.not_lt_zero i)⟩, t7, t8⟩, hg⟩
  · unfold NlOK
    rw [o3]
    omega
  · unfold NlOK
    rw [p3]
    omega
  · rw [h7]
    rfl
theorem VrE.sm {h h' : zH} (hs : ∀ a, a < 93 → Sa h h' a) (hE : VrE h) : VrE h' := by
  obtain ⟨b1, b2, b3, b4, b5, b6, b7, o, p, hh, t⟩ := hE
  obtain ⟨k0, i0, r0⟩ := hs 0 (by omega)
  exact ⟨by rw [k0]; exact b1, by rw [r0]; exact b2, by rw [r0]; exact b3, by rw [r0]; exact b4, by rw [r0]; exact b5, by rw [r0]; exact b6, by rw [r0]; exact b7, OuE.sm (fun a q1 q2 => hs a (by omega)) o, OuE.sm (fun a q1 q2 => hs a (by omega)) p, HiE.sm (fun a q1 q2 => hs a (by omega)) hh, TxE.sm (fun a q1 q2 => hs a (by omega)) t⟩
