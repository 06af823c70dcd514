/-! Puzzle.isSolvable, isSolvableWith, solutionsOf -/
def slv (A : zA) (S : Nat → Bool) : Bool := !(solL A S).isEmpty
set_option maxHeartbeats 4000000 in
theorem sp_isSolvable (l : Launch) (G : zG) (h : zH) (z : Nat) (m : Int) (A : zA) (hsh : ShP h z) (hD : PzD h z A) (hA : AOK A) (hm : 0 ≤ m ∧ m < 1048576) (hmb : ∀ r, tb m r = true → r < aC A) (hI : PzI h z A) (hnl : NlOK h z) (lv : Nat) (hlv : 12 ≤ lv) : z_Sp l G mtX2_isSolvable lv 0 0 [vR z, vI m] (h) (fun r h' => r = some (vI (if slv A (tb m) then 1 else 0)) ∧ PzN h h' z A m) := by
  have k0 := hsh.1
  refine x_enter [vR z, vI m] (by decide +kernel) (by omega) rfl (Nat.le_of_ble_eq_true rfl) ?_
  generalize hQ : (fun (r : Option zV) (h' : zH) => r = some (vI (if slv A (tb m) then 1 else 0)) ∧ PzN h h' z A m) = QQ
  refine z_run1 tsX2_isSolvable [] 20 ?_
  simp (maxSteps := 1000000) -implicitDefEqProofs +contextual (disch := omega) only [z_wp_t, z_wp_u, ↓pI_e, ↓pL_e, ↓pO_e, ↓pR_e, ↓p1_I, ↓p1_O, z_gl, z_st1, z_st2, z_nl_I, z_nl_O, z_nl_J, z_nl_L, if_true, if_false, ite_true, ite_false, true_and, and_true, List.mem_cons, List.not_mem_nil, or_false, false_or, or_self, List.length_cons, List.length_nil, InR_t, InL_t, z_ix_t, mI_s1, mI_s2, ↓brT, ↓brF, ↓brT', ↓brF', mL_sI, mR_sI, mK_sI, mS_sI, mI_sL, mL_s1, mL_s2, mR_sL, mK_sL, mS_sL, mI_sR, mL_sR, mR_s1, mR_s2, mK_sR, mS_sR, mA_s1, mA_s2, mL_sA, mR_sA, mK_sA, mS_sA, ix_n, ix_a, ix_m, ix_s, z_sw, z_stop, forall_const, true_implies, false_implies, imp_self, implies_true, not_true_eq_false, not_false_eq_true, ne_eq, eq_self, Option.some.injEq, reduceCtorEq, Nat.reduceAdd, Nat.reduceSub, Nat.reduceMul, Nat.reduceEqDiff, Nat.reduceLT, Nat.reduceLeDiff, Int.reduceAdd, Int.reduceMul, Int.reduceSub, Int.reduceNeg, Int.reduceToNat, Int.reduceLT, Int.reduceLE, Int.reduceEq, ↓reduceIte, List.reverse_cons, Option.toList, List.cons_append, List.nil_append, vI_inj, vL_inj, vO_inj, rI, rL, rO, rV, mI_sQ, mL_sQ, mK_sQ, mS_sQ, mQ_s1, mQ_s2, iL_and, iL_or, iL_xor, iL_shl, iL_ushr, iR_and, iR_or, iR_xor, iR_shl, iR_shr, iR_ushr, iR_cmp, yc0, tlX2_isSolvable, tkX2_isSolvable, o_aload, o_getL, o_goto, o_ic, o_ifeq, o_iload, o_lc, o_lcmp, o_zret]
  try simp +contextual (disch := omega) only [impF, impT, and_true, true_and, implies_true, not_false_eq_true, not_true_eq_false]
  refine x_callV (by decide +kernel) cv_X2_116 (sp_impose l G h z m A hsh hD hA hm hmb hI 3 (by omega)) k0 (by omega) rfl (by omega) (by omega) rfl (Nat.le_of_ble_eq_true rfl) ?_
  rintro r h1 ⟨rfl, O, F, hh1, hI1⟩
  have hN1 : PzN h h1 z A m := by rw [hh1] at hI1 ⊢; exact PzN.mk' hD hnl hI1
  have hsh1 : ShP h1 z := hsh.ofR hN1.1.K (by rw [hN1.2.1])
  have k1 := hsh1.1
  obtain ⟨n0, hn0⟩ := Int.eq_ofNat_of_zero_le hN1.2.2.2.2.2.1
  have hn80 : n0 ≤ 80 := by have := hN1.2.2.2.2.2.2; omega
  obtain ⟨X, hX8⟩ : ∃ X, gL h1 z 8 = X := ⟨_, rfl⟩
  have hXL : InL X := by rw [← hX8]; exact hI1.1
  have hfil := hI1.fil
  have hself : h1 = sI h1 z 10 (n0 : Int) := by
    have := sI_slf h1 z 10
    rw [hn0] at this
    exact this.symm
  have hf0 := sp_first0 l G h1 z A (tb m) X 80 n0 hsh1 hN1.2.2.1 hA hI1 (by omega) hn80 hXL (fun j hj => by rw [← hX8]; exact hj) 11 (by omega)
  rw [← hself] at hf0
  refine z_run1 tsX2_isSolvable [] 20 ?_
  simp (maxSteps := 1000000) -implicitDefEqProofs +contextual (disch := omega) only [z_wp_t, z_wp_u, ↓pI_e, ↓pL_e, ↓pO_e, ↓pR_e, ↓p1_I, ↓p1_O, z_gl, z_st1, z_st2, z_nl_I, z_nl_O, z_nl_J, z_nl_L, if_true, if_false, ite_true, ite_false, true_and, and_true, List.mem_cons, List.not_mem_nil, or_false, false_or, or_self, List.length_cons, List.length_nil, InR_t, InL_t, z_ix_t, mI_s1, mI_s2, ↓brT, ↓brF, ↓brT', ↓brF', mL_sI, mR_sI, mK_sI, mS_sI, mI_sL, mL_s1, mL_s2, mR_sL, mK_sL, mS_sL, mI_sR, mL_sR, mR_s1, mR_s2, mK_sR, mS_sR, mA_s1, mA_s2, mL_sA, mR_sA, mK_sA, mS_sA, ix_n, ix_a, ix_m, ix_s, z_sw, z_stop, forall_const, true_implies, false_implies, imp_self, implies_true, not_true_eq_false, not_false_eq_true, ne_eq, eq_self, Option.some.injEq, reduceCtorEq, Nat.reduceAdd, Nat.reduceSub, Nat.reduceMul, Nat.reduceEqDiff, Nat.reduceLT, Nat.reduceLeDiff, Int.reduceAdd, Int.reduceMul, Int.reduceSub, Int.reduceNeg, Int.reduceToNat, Int.reduceLT, Int.reduceLE, Int.reduceEq, ↓reduceIte, List.reverse_cons, Option.toList, List.cons_append, List.nil_append, vI_inj, vL_inj, vO_inj, rI, rL, rO, rV, mI_sQ, mL_sQ, mK_sQ, mS_sQ, mQ_s1, mQ_s2, iL_and, iL_or, iL_xor, iL_shl, iL_ushr, iR_and, iR_or, iR_xor, iR_shl, iR_shr, iR_ushr, iR_cmp, yc0, tlX2_isSolvable, tkX2_isSolvable, o_aload, o_getL, o_goto, o_ic, o_ifeq, o_iload, o_lc, o_lcmp, o_zret, k1, hX8]
  try simp +contextual (disch := omega) only [impF, impT, and_true, true_and, implies_true, not_false_eq_true, not_true_eq_false]
  refine x_callS (by decide +kernel) cv_X2_119 (hf0) (by omega) rfl (by omega) (by omega) rfl (Nat.le_of_ble_eq_true rfl) ?_
  rintro r h' ⟨y, nl2, rfl, rfl, hnl2, hyL, hmm⟩
  rw [hX8] at hfil
  rw [hfil, find_80] at hmm
  cases hso : solL A (tb m) with
  | nil =>
    rw [hso] at hmm
    obtain ⟨rfl, -⟩ := hmm
    refine z_run1 tsX2_isSolvable [] 20 ?_
    simp (maxSteps := 1000000) -implicitDefEqProofs +contextual (disch := omega) only [z_wp_t, z_wp_u, ↓pI_e, ↓pL_e, ↓pO_e, ↓pR_e, ↓p1_I, ↓p1_O, z_gl, z_st1, z_st2, z_nl_I, z_nl_O, z_nl_J, z_nl_L, if_true, if_false, ite_true, ite_false, true_and, and_true, List.mem_cons, List.not_mem_nil, or_false, false_or, or_self, List.length_cons, List.length_nil, InR_t, InL_t, z_ix_t, mI_s1, mI_s2, ↓brT, ↓brF, ↓brT', ↓brF', mL_sI, mR_sI, mK_sI, mS_sI, mI_sL, mL_s1, mL_s2, mR_sL, mK_sL, mS_sL, mI_sR, mL_sR, mR_s1, mR_s2, mK_sR, mS_sR, mA_s1, mA_s2, mL_sA, mR_sA, mK_sA, mS_sA, ix_n, ix_a, ix_m, ix_s, z_sw, z_stop, forall_const, true_implies, false_implies, imp_self, implies_true, not_true_eq_false, not_false_eq_true, ne_eq, eq_self, Option.some.injEq, reduceCtorEq, Nat.reduceAdd, Nat.reduceSub, Nat.reduceMul, Nat.reduceEqDiff, Nat.reduceLT, Nat.reduceLeDiff, Int.reduceAdd, Int.reduceMul, Int.reduceSub, Int.reduceNeg, Int.reduceToNat, Int.reduceLT, Int.reduceLE, Int.reduceEq, ↓reduceIte, List.reverse_cons, Option.toList, List.cons_append, List.nil_append, vI_inj, vL_inj, vO_inj, rI, rL, rO, rV, mI_sQ, mL_sQ, mK_sQ, mS_sQ, mQ_s1, mQ_s2, iL_and, iL_or, iL_xor, iL_shl, iL_ushr, iR_and, iR_or, iR_xor, iR_shl, iR_shr, iR_ushr, iR_cmp, yc0, tlX2_isSolvable, tkX2_isSolvable, o_aload, o_getL, o_goto, o_ic, o_ifeq, o_iload, o_lc, o_lcmp, o_zret]
    try simp +contextual (disch := omega) only [impF, impT, and_true, true_and, implies_true, not_false_eq_true, not_true_eq_false]
    rw [← hQ]
    exact ⟨by simp [slv, hso], hN1.nl hnl2⟩
  | cons t0 tl =>
    rw [hso] at hmm
    have ht0 : t0 ∈ solL A (tb m) := by rw [hso]; exact List.mem_cons_self
    have hy0 := Enc_ne hmm.1 (sol_4 ht0)
    refine z_run1 tsX2_isSolvable [] 20 ?_
    simp (maxSteps := 1000000) -implicitDefEqProofs +contextual (disch := omega) only [z_wp_t, z_wp_u, ↓pI_e, ↓pL_e, ↓pO_e, ↓pR_e, ↓p1_I, ↓p1_O, z_gl, z_st1, z_st2, z_nl_I, z_nl_O, z_nl_J, z_nl_L, if_true, if_false, ite_true, ite_false, true_and, and_true, List.mem_cons, List.not_mem_nil, or_false, false_or, or_self, List.length_cons, List.length_nil, InR_t, InL_t, z_ix_t, mI_s1, mI_s2, ↓brT, ↓brF, ↓brT', ↓brF', mL_sI, mR_sI, mK_sI, mS_sI, mI_sL, mL_s1, mL_s2, mR_sL, mK_sL, mS_sL, mI_sR, mL_sR, mR_s1, mR_s2, mK_sR, mS_sR, mA_s1, mA_s2, mL_sA, mR_sA, mK_sA, mS_sA, ix_n, ix_a, ix_m, ix_s, z_sw, z_stop, forall_const, true_implies, false_implies, imp_self, implies_true, not_true_eq_false, not_false_eq_true, ne_eq, eq_self, Option.some.injEq, reduceCtorEq, Nat.reduceAdd, Nat.reduceSub, Nat.reduceMul, Nat.reduceEqDiff, Nat.reduceLT, Nat.reduceLeDiff, Int.reduceAdd, Int.reduceMul, Int.reduceSub, Int.reduceNeg, Int.reduceToNat, Int.reduceLT, Int.reduceLE, Int.reduceEq, ↓reduceIte, List.reverse_cons, Option.toList, List.cons_append, List.nil_append, vI_inj, vL_inj, vO_inj, rI, rL, rO, rV, mI_sQ, mL_sQ, mK_sQ, mS_sQ, mQ_s1, mQ_s2, iL_and, iL_or, iL_xor, iL_shl, iL_ushr, iR_and, iR_or, iR_xor, iR_shl, iR_shr, iR_ushr, iR_cmp, yc0, tlX2_isSolvable, tkX2_isSolvable, o_aload, o_getL, o_goto, o_ic, o_ifeq, o_iload, o_lc, o_lcmp, o_zret, hy0, hyL]
    try simp +contextual (disch := omega) only [impF, impT, and_true, true_and, implies_true, not_false_eq_true, not_true_eq_false]
    rw [← hQ]
    exact ⟨by simp [slv, hso], hN1.nl hnl2⟩
theorem solW_fil {h : zH} {z : Nat} {A : zA} {S : Nat → Bool} (hI : ImpOK h z A S) {p v : Nat} (hp : p < 8) (hv : v < 5) : (enum 8 s0).filter (fwB (gL h (z + 5)) (y_and (gL h z 8) (gL h (z + 5) (5 * p + v))) 0) = (solL A S).filter (fun t => decide (t p = v)) := by
  unfold solL
  rw [List.filter_filter]
  refine filt_congr fun t ht => ?_
  have h4 := (enum_all.mp ht).1
  apply Bool.eq_iff_iff.mpr
  rw [Bool.and_eq_true, solB_iff, ← hI.2.2.2.2.2 t h4, fwB_iff, decide_eq_true_eq]
  constructor
  · rintro ⟨q1, q2⟩
    refine ⟨?_, fun u hu => ?_, fun u hu w hw => q2 u hu w hw (by omega)⟩
    · have := q1 p hp
      rw [lb_and] at this
      simp at this
      exact hI.2.2.2.1.1 p v (t p) hp hv (by have := h4 p hp; omega) this.2
    · have := q1 u hu
      rw [lb_and] at this
      simp at this
      exact this.1
  · rintro ⟨q0, q1, q2⟩
    refine ⟨fun u hu => ?_, fun u hu w hw _ => q2 u hu w hw⟩
    have := q2 p hp u hu
    rw [q0] at this
    rw [lb_and, q1 u hu, this]
    rfl
def psb (A : zA) (S : Nat → Bool) (p v : Nat) : Bool := (solL A S).any (fun t => decide (t p = v))
theorem psb_fil {A : zA} {S : Nat → Bool} {p v : Nat} : psb A S p v = !((solL A S).filter (fun t => decide (t p = v))).isEmpty := by
  unfold psb
  generalize solL A S = l
  induction l with
  | nil => rfl
  | cons a l ih =>
    rw [List.any_cons, List.filter_cons, ih]
    cases decide (a p = v) <;> simp
set_option maxHeartbeats 4000000 in
theorem sp_isSolvableWith (l : Launch) (G : zG) (h : zH) (z p v : Nat) (m : Int) (A : zA) (hsh : ShP h z) (hD : PzD h z A) (hA : AOK A) (hm : 0 ≤ m ∧ m < 1048576) (hmb : ∀ r, tb m r = true → r < aC A) (hI : PzI h z A) (hnl : NlOK h z) (hp : p < 8) (hv : v < 5) (lv : Nat) (hlv : 12 ≤ lv) : z_Sp l G mtX2_isSolvableWith lv 0 0 [vR z, vI m, vI p, vI v] (h) (fun r h' => r = some (vI (if psb A (tb m) p v then 1 else 0)) ∧ PzN h h' z A m) := by
  have k0 := hsh.1
  refine x_enter [vR z, vI m, vI p, vI v, vJ] (by decide +kernel) (by omega) rfl (Nat.le_of_ble_eq_true rfl) ?_
  generalize hQ : (fun (r : Option zV) (h' : zH) => r = some (vI (if psb A (tb m) p v then 1 else 0)) ∧ PzN h h' z A m) = QQ
  refine z_run1 tsX2_isSolvableWith [] 20 ?_
  simp (maxSteps := 1000000) -implicitDefEqProofs +contextual (disch := omega) only [z_wp_t, z_wp_u, ↓pI_e, ↓pL_e, ↓pO_e, ↓pR_e, ↓p1_I, ↓p1_O, z_gl, z_st1, z_st2, z_nl_I, z_nl_O, z_nl_J, z_nl_L, if_true, if_false, ite_true, ite_false, true_and, and_true, List.mem_cons, List.not_mem_nil, or_false, false_or, or_self, List.length_cons, List.length_nil, InR_t, InL_t, z_ix_t, mI_s1, mI_s2, ↓brT, ↓brF, ↓brT', ↓brF', mL_sI, mR_sI, mK_sI, mS_sI, mI_sL, mL_s1, mL_s2, mR_sL, mK_sL, mS_sL, mI_sR, mL_sR, mR_s1, mR_s2, mK_sR, mS_sR, mA_s1, mA_s2, mL_sA, mR_sA, mK_sA, mS_sA, ix_n, ix_a, ix_m, ix_s, z_sw, z_stop, forall_const, true_implies, false_implies, imp_self, implies_true, not_true_eq_false, not_false_eq_true, ne_eq, eq_self, Option.some.injEq, reduceCtorEq, Nat.reduceAdd, Nat.reduceSub, Nat.reduceMul, Nat.reduceEqDiff, Nat.reduceLT, Nat.reduceLeDiff, Int.reduceAdd, Int.reduceMul, Int.reduceSub, Int.reduceNeg, Int.reduceToNat, Int.reduceLT, Int.reduceLE, Int.reduceEq, ↓reduceIte, List.reverse_cons, Option.toList, List.cons_append, List.nil_append, vI_inj, vL_inj, vO_inj, rI, rL, rO, rV, mI_sQ, mL_sQ, mK_sQ, mS_sQ, mQ_s1, mQ_s2, iL_and, iL_or, iL_xor, iL_shl, iL_ushr, iR_and, iR_or, iR_xor, iR_shl, iR_shr, iR_ushr, iR_cmp, yc0, tlX2_isSolvableWith, tkX2_isSolvableWith, o_aload, o_getL, o_getR, o_goto, o_iadd, o_ic, o_icge, o_ifeq, o_iflt, o_ifne, o_iload, o_imul, o_istore, o_lald, o_land, o_lc, o_lcmp, o_lushr, o_zret]
  try simp +contextual (disch := omega) only [impF, impT, and_true, true_and, implies_true, not_false_eq_true, not_true_eq_false]
  refine x_callV (by decide +kernel) cv_X2_116 (sp_impose l G h z m A hsh hD hA hm hmb hI 3 (by omega)) k0 (by omega) rfl (by omega) (by omega) rfl (Nat.le_of_ble_eq_true rfl) ?_
  rintro r h1 ⟨rfl, O, F, hh1, hI1⟩
  have hN1 : PzN h h1 z A m := by rw [hh1] at hI1 ⊢; exact PzN.mk' hD hnl hI1
  have hsh1 : ShP h1 z := hsh.ofR hN1.1.K (by rw [hN1.2.1])
  have k1 := hsh1.1
  have k5 := hsh1.2.2.2.2.2.1
  have r4 := hsh1.2.2.2.2.2.2.2.2.2.2
  obtain ⟨n0, hn0⟩ := Int.eq_ofNat_of_zero_le hN1.2.2.2.2.2.1
  have hn80 : n0 ≤ 80 := by have := hN1.2.2.2.2.2.2; omega
  have hfil := solW_fil hI1 hp hv
  obtain ⟨X, hX8⟩ : ∃ X, gL h1 z 8 = X := ⟨_, rfl⟩
  have hself : h1 = sI h1 z 10 (n0 : Int) := by
    have := sI_slf h1 z 10
    rw [hn0] at this
    exact this.symm
  have hbit := y_bit X (k := 5 * p + v) (by omega)
  rw [show ((5 * p + v : Nat) : Int) = 5 * (p : Int) + (v : Int) by omega] at hbit
  cases hb : lb X (5 * p + v)
  · rw [hb] at hbit
    simp only [Bool.false_eq_true, if_false] at hbit
    have hno : psb A (tb m) p v = false := by
      rw [psb_fil, ← hfil, filt_none]
      · rfl
      · intro t ht
        cases hq : fwB (gL h1 (z + 5)) (y_and (gL h1 z 8) (gL h1 (z + 5) (5 * p + v))) 0 t
        · rfl
        · have h4 := (enum_all.mp ht).1
          have q1 := (fwB_iff.mp hq).1 p hp
          rw [lb_and] at q1
          simp at q1
          have := hI1.2.2.2.1.1 p v (t p) hp hv (by have := h4 p hp; omega) q1.2
          rw [this, hX8, hb] at q1
          cases q1.1
    refine z_run1 tsX2_isSolvableWith [] 30 ?_
    simp (maxSteps := 1000000) -implicitDefEqProofs +contextual (disch := omega) only [z_wp_t, z_wp_u, ↓pI_e, ↓pL_e, ↓pO_e, ↓pR_e, ↓p1_I, ↓p1_O, z_gl, z_st1, z_st2, z_nl_I, z_nl_O, z_nl_J, z_nl_L, if_true, if_false, ite_true, ite_false, true_and, and_true, List.mem_cons, List.not_mem_nil, or_false, false_or, or_self, List.length_cons, List.length_nil, InR_t, InL_t, z_ix_t, mI_s1, mI_s2, ↓brT, ↓brF, ↓brT', ↓brF', mL_sI, mR_sI, mK_sI, mS_sI, mI_sL, mL_s1, mL_s2, mR_sL, mK_sL, mS_sL, mI_sR, mL_sR, mR_s1, mR_s2, mK_sR, mS_sR, mA_s1, mA_s2, mL_sA, mR_sA, mK_sA, mS_sA, ix_n, ix_a, ix_m, ix_s, z_sw, z_stop, forall_const, true_implies, false_implies, imp_self, implies_true, not_true_eq_false, not_false_eq_true, ne_eq, eq_self, Option.some.injEq, reduceCtorEq, Nat.reduceAdd, Nat.reduceSub, Nat.reduceMul, Nat.reduceEqDiff, Nat.reduceLT, Nat.reduceLeDiff, Int.reduceAdd, Int.reduceMul, Int.reduceSub, Int.reduceNeg, Int.reduceToNat, Int.reduceLT, Int.reduceLE, Int.reduceEq, ↓reduceIte, List.reverse_cons, Option.toList, List.cons_append, List.nil_append, vI_inj, vL_inj, vO_inj, rI, rL, rO, rV, mI_sQ, mL_sQ, mK_sQ, mS_sQ, mQ_s1, mQ_s2, iL_and, iL_or, iL_xor, iL_shl, iL_ushr, iR_and, iR_or, iR_xor, iR_shl, iR_shr, iR_ushr, iR_cmp, yc0, tlX2_isSolvableWith, tkX2_isSolvableWith, o_aload, o_getL, o_getR, o_goto, o_iadd, o_ic, o_icge, o_ifeq, o_iflt, o_ifne, o_iload, o_imul, o_istore, o_lald, o_land, o_lc, o_lcmp, o_lushr, o_zret, k1, hX8, hbit]
    try simp +contextual (disch := omega) only [impF, impT, and_true, true_and, implies_true, not_false_eq_true, not_true_eq_false]
    rw [← hQ]
    exact ⟨by simp [hno], hN1⟩
  · rw [hb] at hbit
    simp only [if_true] at hbit
    have hf0 := sp_first0 l G h1 z A (tb m) (y_and X (gL h1 (z + 5) (5 * p + v))) 80 n0 hsh1 hN1.2.2.1 hA hI1 (by omega) hn80 (InL_and _ _) (fun j hj => by rw [← hX8, lb_and, hj]; rfl) 11 (by omega)
    rw [← hself] at hf0
    refine z_run1 tsX2_isSolvableWith [] 30 ?_
    simp (maxSteps := 1000000) -implicitDefEqProofs +contextual (disch := omega) only [z_wp_t, z_wp_u, ↓pI_e, ↓pL_e, ↓pO_e, ↓pR_e, ↓p1_I, ↓p1_O, z_gl, z_st1, z_st2, z_nl_I, z_nl_O, z_nl_J, z_nl_L, if_true, if_false, ite_true, ite_false, true_and, and_true, List.mem_cons, List.not_mem_nil, or_false, false_or, or_self, List.length_cons, List.length_nil, InR_t, InL_t, z_ix_t, mI_s1, mI_s2, ↓brT, ↓brF, ↓brT', ↓brF', mL_sI, mR_sI, mK_sI, mS_sI, mI_sL, mL_s1, mL_s2, mR_sL, mK_sL, mS_sL, mI_sR, mL_sR, mR_s1, mR_s2, mK_sR, mS_sR, mA_s1, mA_s2, mL_sA, mR_sA, mK_sA, mS_sA, ix_n, ix_a, ix_m, ix_s, z_sw, z_stop, forall_const, true_implies, false_implies, imp_self, implies_true, not_true_eq_false, not_false_eq_true, ne_eq, eq_self, Option.some.injEq, reduceCtorEq, Nat.reduceAdd, Nat.reduceSub, Nat.reduceMul, Nat.reduceEqDiff, Nat.reduceLT, Nat.reduceLeDiff, Int.reduceAdd, Int.reduceMul, Int.reduceSub, Int.reduceNeg, Int.reduceToNat, Int.reduceLT, Int.reduceLE, Int.reduceEq, ↓reduceIte, List.reverse_cons, Option.toList, List.cons_append, List.nil_append, vI_inj, vL_inj, vO_inj, rI, rL, rO, rV, mI_sQ, mL_sQ, mK_sQ, mS_sQ, mQ_s1, mQ_s2, iL_and, iL_or, iL_xor, iL_shl, iL_ushr, iR_and, iR_or, iR_xor, iR_shl, iR_shr, iR_ushr, iR_cmp, yc0, tlX2_isSolvableWith, tkX2_isSolvableWith, o_aload, o_getL, o_getR, o_goto, o_iadd, o_ic, o_icge, o_ifeq, o_iflt, o_ifne, o_iload, o_imul, o_istore, o_lald, o_land, o_lc, o_lcmp, o_lushr, o_zret, k1, k5, r4, hX8, hbit]
    try simp +contextual (disch := omega) only [impF, impT, and_true, true_and, implies_true, not_false_eq_true, not_true_eq_false]
    refine x_callS (by decide +kernel) cv_X2_119 (hf0) (by omega) rfl (by omega) (by omega) rfl (Nat.le_of_ble_eq_true rfl) ?_
    rintro r h' ⟨y, nl2, rfl, rfl, hnl2, hyL, hmm⟩
    rw [hX8] at hfil
    rw [hfil, find_80] at hmm
    cases hso : (solL A (tb m)).filter (fun t => decide (t p = v)) with
    | nil =>
      rw [hso] at hmm
      obtain ⟨rfl, -⟩ := hmm
      refine z_run1 tsX2_isSolvableWith [] 20 ?_
      simp (maxSteps := 1000000) -implicitDefEqProofs +contextual (disch := omega) only [z_wp_t, z_wp_u, ↓pI_e, ↓pL_e, ↓pO_e, ↓pR_e, ↓p1_I, ↓p1_O, z_gl, z_st1, z_st2, z_nl_I, z_nl_O, z_nl_J, z_nl_L, if_true, if_false, ite_true, ite_false, true_and, and_true, List.mem_cons, List.not_mem_nil, or_false, false_or, or_self, List.length_cons, List.length_nil, InR_t, InL_t, z_ix_t, mI_s1, mI_s2, ↓brT, ↓brF, ↓brT', ↓brF', mL_sI, mR_sI, mK_sI, mS_sI, mI_sL, mL_s1, mL_s2, mR_sL, mK_sL, mS_sL, mI_sR, mL_sR, mR_s1, mR_s2, mK_sR, mS_sR, mA_s1, mA_s2, mL_sA, mR_sA, mK_sA, mS_sA, ix_n, ix_a, ix_m, ix_s, z_sw, z_stop, forall_const, true_implies, false_implies, imp_self, implies_true, not_true_eq_false, not_false_eq_true, ne_eq, eq_self, Option.some.injEq, reduceCtorEq, Nat.reduceAdd, Nat.reduceSub, Nat.reduceMul, Nat.reduceEqDiff, Nat.reduceLT, Nat.reduceLeDiff, Int.reduceAdd, Int.reduceMul, Int.reduceSub, Int.reduceNeg, Int.reduceToNat, Int.reduceLT, Int.reduceLE, Int.reduceEq, ↓reduceIte, List.reverse_cons, Option.toList, List.cons_append, List.nil_append, vI_inj, vL_inj, vO_inj, rI, rL, rO, rV, mI_sQ, mL_sQ, mK_sQ, mS_sQ, mQ_s1, mQ_s2, iL_and, iL_or, iL_xor, iL_shl, iL_ushr, iR_and, iR_or, iR_xor, iR_shl, iR_shr, iR_ushr, iR_cmp, yc0, tlX2_isSolvableWith, tkX2_isSolvableWith, o_aload, o_getL, o_getR, o_goto, o_iadd, o_ic, o_icge, o_ifeq, o_iflt, o_ifne, o_iload, o_imul, o_istore, o_lald, o_land, o_lc, o_lcmp, o_lushr, o_zret]
      try simp +contextual (disch := omega) only [impF, impT, and_true, true_and, implies_true, not_false_eq_true, not_true_eq_false]
      rw [← hQ]
      exact ⟨by simp [psb_fil, hso], hN1.nl hnl2⟩
    | cons t0 tl =>
      rw [hso] at hmm
      have ht0 : t0 ∈ solL A (tb m) := (List.mem_filter.mp (by rw [hso]; exact List.mem_cons_self : t0 ∈ (solL A (tb m)).filter (fun t => decide (t p = v)))).1
      have hy0 := Enc_ne hmm.1 (sol_4 ht0)
      refine z_run1 tsX2_isSolvableWith [] 20 ?_
      simp (maxSteps := 1000000) -implicitDefEqProofs +contextual (disch := omega) only [z_wp_t, z_wp_u, ↓pI_e, ↓pL_e, ↓pO_e, ↓pR_e, ↓p1_I, ↓p1_O, z_gl, z_st1, z_st2, z_nl_I, z_nl_O, z_nl_J, z_nl_L, if_true, if_false, ite_true, ite_false, true_and, and_true, List.mem_cons, List.not_mem_nil, or_false, false_or, or_self, List.length_cons, List.length_nil, InR_t, InL_t, z_ix_t, mI_s1, mI_s2, ↓brT, ↓brF, ↓brT', ↓brF', mL_sI, mR_sI, mK_sI, mS_sI, mI_sL, mL_s1, mL_s2, mR_sL, mK_sL, mS_sL, mI_sR, mL_sR, mR_s1, mR_s2, mK_sR, mS_sR, mA_s1, mA_s2, mL_sA, mR_sA, mK_sA, mS_sA, ix_n, ix_a, ix_m, ix_s, z_sw, z_stop, forall_const, true_implies, false_implies, imp_self, implies_true, not_true_eq_false, not_false_eq_true, ne_eq, eq_self, Option.some.injEq, reduceCtorEq, Nat.reduceAdd, Nat.reduceSub, Nat.reduceMul, Nat.reduceEqDiff, Nat.reduceLT, Nat.reduceLeDiff, Int.reduceAdd, Int.reduceMul, Int.reduceSub, Int.reduceNeg, Int.reduceToNat, Int.reduceLT, Int.reduceLE, Int.reduceEq, ↓reduceIte, List.reverse_cons, Option.toList, List.cons_append, List.nil_append, vI_inj, vL_inj, vO_inj, rI, rL, rO, rV, mI_sQ, mL_sQ, mK_sQ, mS_sQ, mQ_s1, mQ_s2, iL_and, iL_or, iL_xor, iL_shl, iL_ushr, iR_and, iR_or, iR_xor, iR_shl, iR_shr, iR_ushr, iR_cmp, yc0, tlX2_isSolvableWith, tkX2_isSolvableWith, o_aload, o_getL, o_getR, o_goto, o_iadd, o_ic, o_icge, o_ifeq, o_iflt, o_ifne, o_iload, o_imul, o_istore, o_lald, o_land, o_lc, o_lcmp, o_lushr, o_zret, hy0, hyL]
      try simp +contextual (disch := omega) only [impF, impT, and_true, true_and, implies_true, not_false_eq_true, not_true_eq_false]
      rw [← hQ]
      exact ⟨by simp [psb_fil, hso], hN1.nl hnl2⟩
/-! solutions, counted -/
theorem enV_len {α : Type} (f : Nat → List α) (n : Nat) : (enV f (n + 1)).length = (enV f n).length + (f n).length := by simp only [enV, List.length_append]; omega
/-- what is left at package k behind the choices of s -/
def LfQ (O : Int) (F : Nat → Int) (k : Nat) (s : Nat → Nat) (x : Int) : Prop := InL x ∧ (∀ j, lb O j = false → lb x j = false) ∧ (∀ p v, p < k → v < 5 → lb x (5 * p + v) = decide (v = s p)) ∧ (∀ p, p < k → s p ≤ 4) ∧ ∀ p q w, p < k → q < 8 → w < 5 → lb x (5 * q + w) = true → lb (F (5 * p + s p)) (5 * q + w) = true
theorem cnt_enV {f : Nat → Bool} {g : Nat → List (Nat → Nat)} (h : ∀ v, v < 5 → (g v).length = if f v then 1 else 0) : ∀ n, n ≤ 5 → (enV g n).length = cnt f n
  | 0, _ => rfl
  | n + 1, hn => by
    rw [enV_len, cnt_enV h n (by omega), h n (by omega)]
    rfl
set_option maxHeartbeats 4000000 in
theorem sp_solutionsFrom (l : Launch) (G : zG) (h : zH) (z : Nat) (F : Nat → Int) (O : Int) (hsh : ShP h z) (hF : gL h (z + 5) = F) (hO40 : ∀ j, 40 ≤ j → lb O j = false) (hown : OwnF F) (hsym : SymF F) (hOO : ∀ p v, p < 8 → v < 5 → lb O (5 * p + v) = true → lb (F (5 * p + v)) (5 * p + v) = true) : ∀ (d k : Nat) (s : Nat → Nat) (x : Int) (M : Nat), k + d = 7 → M ≤ 1000 → LfQ O F k s x → ∀ (lv : Nat), d + 2 ≤ lv → z_Sp l G mtX2_solutionsFrom lv 0 0 [vR z, vI k, vL x, vI M] h (rI ((min M ((enum (d + 1) s).filter (fwB F x k)).length : Nat) : Int) h) := by
  obtain ⟨k0, k1, k2, k3, k4, k5, r0, r1, r2, r3, r4⟩ := hsh
  intro d
  induction d with
  | zero =>
    intro k s x M hkd hM hq lv hlv
    obtain rfl : k = 7 := by omega
    obtain ⟨q1, q2, q3, q4, q5⟩ := hq
    have hlen : ((enum 1 s).filter (fwB F x 7)).length = cnt (fun v => lb x (35 + v)) 5 := by
      rw [enum_s, enV_filter]
      refine cnt_enV (fun v hv => ?_) 5 (by omega)
      show ([up s 7 v].filter (fwB F x 7)).length = _
      have : fwB F x 7 (up s 7 v) = lb x (35 + v) := by
        apply Bool.eq_iff_iff.mpr
        rw [fwB_iff]
        constructor
        · rintro ⟨a1, a2⟩
          have := a1 7 (by omega)
          rw [up_s] at this
          exact this
        · intro hb
          have ha : Lf x (up s 7 v) := fun p hp => by
            by_cases e : p = 7
            · rw [e, up_s]; exact hb
            · rw [up_n _ _ e, q3 p _ (by omega) (by have := q4 p (by omega); omega)]; simp
          refine ⟨ha, fun p hp q hq' h7 => ?_⟩
          obtain rfl : p = 7 := by omega
          rw [up_s]
          by_cases e : q = 7
          · rw [e, up_s]
            refine hOO 7 v (by omega) hv ?_
            cases hq2 : lb O (5 * 7 + v)
            · rw [show 35 + v = 5 * 7 + v by omega, q2 _ hq2] at hb; cases hb
            · rfl
          · have h4 := q4 q (by omega)
            have := q5 q 7 v (by omega) (by omega) hv hb
            rw [up_n _ _ e]
            exact hsym q (s q) 7 v (by omega) (by omega) (by omega) hv this
      rw [List.filter_cons, this]
      cases lb x (35 + v) <;> simp
    rw [hlen]
    refine x_enter [vR z, vI 7, vL x, vJ, vI M, vJ, vJ, vJ, vJ, vJ] (by decide +kernel) (by omega) rfl (Nat.le_of_ble_eq_true rfl) ?_
    refine z_run1 tsX2_solutionsFrom [] 20 ?_
    simp (maxSteps := 1000000) -implicitDefEqProofs +contextual (disch := omega) only [z_wp_t, z_wp_u, ↓pI_e, ↓pL_e, ↓pO_e, ↓pR_e, ↓p1_I, ↓p1_O, z_gl, z_st1, z_st2, z_nl_I, z_nl_O, z_nl_J, z_nl_L, if_true, if_false, ite_true, ite_false, true_and, and_true, List.mem_cons, List.not_mem_nil, or_false, false_or, or_self, List.length_cons, List.length_nil, InR_t, InL_t, z_ix_t, mI_s1, mI_s2, ↓brT, ↓brF, ↓brT', ↓brF', mL_sI, mR_sI, mK_sI, mS_sI, mI_sL, mL_s1, mL_s2, mR_sL, mK_sL, mS_sL, mI_sR, mL_sR, mR_s1, mR_s2, mK_sR, mS_sR, mA_s1, mA_s2, mL_sA, mR_sA, mK_sA, mS_sA, ix_n, ix_a, ix_m, ix_s, z_sw, z_stop, forall_const, true_implies, false_implies, imp_self, implies_true, not_true_eq_false, not_false_eq_true, ne_eq, eq_self, Option.some.injEq, reduceCtorEq, Nat.reduceAdd, Nat.reduceSub, Nat.reduceMul, Nat.reduceEqDiff, Nat.reduceLT, Nat.reduceLeDiff, Int.reduceAdd, Int.reduceMul, Int.reduceSub, Int.reduceNeg, Int.reduceToNat, Int.reduceLT, Int.reduceLE, Int.reduceEq, ↓reduceIte, List.reverse_cons, Option.toList, List.cons_append, List.nil_append, vI_inj, vL_inj, vO_inj, rI, rL, rO, rV, mI_sQ, mL_sQ, mK_sQ, mS_sQ, mQ_s1, mQ_s2, iL_and, iL_or, iL_xor, iL_shl, iL_ushr, iR_and, iR_or, iR_xor, iR_shl, iR_shr, iR_ushr, iR_cmp, yc0, tlX2_solutionsFrom, tkX2_solutionsFrom, o_aload, o_getR, o_goto, o_iadd, o_ic, o_icge, o_iclt, o_iflt, o_ifne, o_ifnull, o_iinc, o_iload, o_imul, o_iret, o_istore, o_isub, o_lald, o_land, o_lc, o_lcmp, o_lload, o_lstore, o_lushr]
    try simp +contextual (disch := omega) only [impF, impT, and_true, true_and, implies_true, not_false_eq_true, not_true_eq_false]
    refine x_callS (by decide +kernel) cv_X2_86 (sp_valuesOf l G _ x 7 1 (by omega)) (by omega) rfl (by omega) (by omega) rfl (Nat.le_of_ble_eq_true rfl) ?_
    rintro r h' ⟨rfl, hE⟩
    subst h'
    have hR := vsO_R x (p := 7) (by omega)
    have hc5 : cnt (tb (vsO x 7)) 5 = cnt (fun v => lb x (35 + v)) 5 := cnt_congr fun v hv => by rw [vsO_b x (by omega) (by omega)]; simp [hv]
    refine z_run1 tsX2_solutionsFrom [] 20 ?_
    simp (maxSteps := 1000000) -implicitDefEqProofs +contextual (disch := omega) only [z_wp_t, z_wp_u, ↓pI_e, ↓pL_e, ↓pO_e, ↓pR_e, ↓p1_I, ↓p1_O, z_gl, z_st1, z_st2, z_nl_I, z_nl_O, z_nl_J, z_nl_L, if_true, if_false, ite_true, ite_false, true_and, and_true, List.mem_cons, List.not_mem_nil, or_false, false_or, or_self, List.length_cons, List.length_nil, InR_t, InL_t, z_ix_t, mI_s1, mI_s2, ↓brT, ↓brF, ↓brT', ↓brF', mL_sI, mR_sI, mK_sI, mS_sI, mI_sL, mL_s1, mL_s2, mR_sL, mK_sL, mS_sL, mI_sR, mL_sR, mR_s1, mR_s2, mK_sR, mS_sR, mA_s1, mA_s2, mL_sA, mR_sA, mK_sA, mS_sA, ix_n, ix_a, ix_m, ix_s, z_sw, z_stop, forall_const, true_implies, false_implies, imp_self, implies_true, not_true_eq_false, not_false_eq_true, ne_eq, eq_self, Option.some.injEq, reduceCtorEq, Nat.reduceAdd, Nat.reduceSub, Nat.reduceMul, Nat.reduceEqDiff, Nat.reduceLT, Nat.reduceLeDiff, Int.reduceAdd, Int.reduceMul, Int.reduceSub, Int.reduceNeg, Int.reduceToNat, Int.reduceLT, Int.reduceLE, Int.reduceEq, ↓reduceIte, List.reverse_cons, Option.toList, List.cons_append, List.nil_append, vI_inj, vL_inj, vO_inj, rI, rL, rO, rV, mI_sQ, mL_sQ, mK_sQ, mS_sQ, mQ_s1, mQ_s2, iL_and, iL_or, iL_xor, iL_shl, iL_ushr, iR_and, iR_or, iR_xor, iR_shl, iR_shr, iR_ushr, iR_cmp, yc0, tlX2_solutionsFrom, tkX2_solutionsFrom, o_aload, o_getR, o_goto, o_iadd, o_ic, o_icge, o_iclt, o_iflt, o_ifne, o_ifnull, o_iinc, o_iload, o_imul, o_iret, o_istore, o_isub, o_lald, o_land, o_lc, o_lcmp, o_lload, o_lstore, o_lushr]
    try simp +contextual (disch := omega) only [impF, impT, and_true, true_and, implies_true, not_false_eq_true, not_true_eq_false]
    refine x_callS (by decide +kernel) cv_X2_144 (sp_bcI5 l G _ (vsO x 7) hR 1 (by omega)) (by omega) rfl (by omega) (by omega) rfl (Nat.le_of_ble_eq_true rfl) ?_
    rintro r h' ⟨rfl, hE⟩
    subst h'
    rw [hc5]
    have hcl := cnt_le (fun v => lb x (35 + v)) 5
    generalize cnt (fun v => lb x (35 + v)) 5 = cc at *
    refine z_run1 tsX2_solutionsFrom [] 20 ?_
    simp (maxSteps := 1000000) -implicitDefEqProofs +contextual (disch := omega) only [z_wp_t, z_wp_u, ↓pI_e, ↓pL_e, ↓pO_e, ↓pR_e, ↓p1_I, ↓p1_O, z_gl, z_st1, z_st2, z_nl_I, z_nl_O, z_nl_J, z_nl_L, if_true, if_false, ite_true, ite_false, true_and, and_true, List.mem_cons, List.not_mem_nil, or_false, false_or, or_self, List.length_cons, List.length_nil, InR_t, InL_t, z_ix_t, mI_s1, mI_s2, ↓brT, ↓brF, ↓brT', ↓brF', mL_sI, mR_sI, mK_sI, mS_sI, mI_sL, mL_s1, mL_s2, mR_sL, mK_sL, mS_sL, mI_sR, mL_sR, mR_s1, mR_s2, mK_sR, mS_sR, mA_s1, mA_s2, mL_sA, mR_sA, mK_sA, mS_sA, ix_n, ix_a, ix_m, ix_s, z_sw, z_stop, forall_const, true_implies, false_implies, imp_self, implies_true, not_true_eq_false, not_false_eq_true, ne_eq, eq_self, Option.some.injEq, reduceCtorEq, Nat.reduceAdd, Nat.reduceSub, Nat.reduceMul, Nat.reduceEqDiff, Nat.reduceLT, Nat.reduceLeDiff, Int.reduceAdd, Int.reduceMul, Int.reduceSub, Int.reduceNeg, Int.reduceToNat, Int.reduceLT, Int.reduceLE, Int.reduceEq, ↓reduceIte, List.reverse_cons, Option.toList, List.cons_append, List.nil_append, vI_inj, vL_inj, vO_inj, rI, rL, rO, rV, mI_sQ, mL_sQ, mK_sQ, mS_sQ, mQ_s1, mQ_s2, iL_and, iL_or, iL_xor, iL_shl, iL_ushr, iR_and, iR_or, iR_xor, iR_shl, iR_shr, iR_ushr, iR_cmp, yc0, tlX2_solutionsFrom, tkX2_solutionsFrom, o_aload, o_getR, o_goto, o_iadd, o_ic, o_icge, o_iclt, o_iflt, o_ifne, o_ifnull, o_iinc, o_iload, o_imul, o_iret, o_istore, o_isub, o_lald, o_land, o_lc, o_lcmp, o_lload, o_lstore, o_lushr]
    try simp +contextual (disch := omega) only [impF, impT, and_true, true_and, implies_true, not_false_eq_true, not_true_eq_false]
    refine x_min (by decide +kernel) cv_X2_130 (by unfold InR; omega) (by unfold InR; omega) (Nat.le_of_ble_eq_true rfl) ?_
    refine z_run1 tsX2_solutionsFrom [] 20 ?_
    simp (maxSteps := 1000000) -implicitDefEqProofs +contextual (disch := omega) only [z_wp_t, z_wp_u, ↓pI_e, ↓pL_e, ↓pO_e, ↓pR_e, ↓p1_I, ↓p1_O, z_gl, z_st1, z_st2, z_nl_I, z_nl_O, z_nl_J, z_nl_L, if_true, if_false, ite_true, ite_false, true_and, and_true, List.mem_cons, List.not_mem_nil, or_false, false_or, or_self, List.length_cons, List.length_nil, InR_t, InL_t, z_ix_t, mI_s1, mI_s2, ↓brT, ↓brF, ↓brT', ↓brF', mL_sI, mR_sI, mK_sI, mS_sI, mI_sL, mL_s1, mL_s2, mR_sL, mK_sL, mS_sL, mI_sR, mL_sR, mR_s1, mR_s2, mK_sR, mS_sR, mA_s1, mA_s2, mL_sA, mR_sA, mK_sA, mS_sA, ix_n, ix_a, ix_m, ix_s, z_sw, z_stop, forall_const, true_implies, false_implies, imp_self, implies_true, not_true_eq_false, not_false_eq_true, ne_eq, eq_self, Option.some.injEq, reduceCtorEq, Nat.reduceAdd, Nat.reduceSub, Nat.reduceMul, Nat.reduceEqDiff, Nat.reduceLT, Nat.reduceLeDiff, Int.reduceAdd, Int.reduceMul, Int.reduceSub, Int.reduceNeg, Int.reduceToNat, Int.reduceLT, Int.reduceLE, Int.reduceEq, ↓reduceIte, List.reverse_cons, Option.toList, List.cons_append, List.nil_append, vI_inj, vL_inj, vO_inj, rI, rL, rO, rV, mI_sQ, mL_sQ, mK_sQ, mS_sQ, mQ_s1, mQ_s2, iL_and, iL_or, iL_xor, iL_shl, iL_ushr, iR_and, iR_or, iR_xor, iR_shl, iR_shr, iR_ushr, iR_cmp, yc0, tlX2_solutionsFrom, tkX2_solutionsFrom, o_aload, o_getR, o_goto, o_iadd, o_ic, o_icge, o_iclt, o_iflt, o_ifne, o_ifnull, o_iinc, o_iload, o_imul, o_iret, o_istore, o_isub, o_lald, o_land, o_lc, o_lcmp, o_lload, o_lstore, o_lushr]
    try simp +contextual (disch := omega) only [impF, impT, and_true, true_and, implies_true, not_false_eq_true, not_true_eq_false]
    split <;> omega
  | succ d ihd =>
    intro k s x M hkd hM hq lv hlv
    obtain ⟨q1, q2, q3, q4, q5⟩ := hq
    have e7 : 7 - (d + 1) = k := by omega
    refine x_enter [vR z, vI k, vL x, vJ, vI M, vJ, vJ, vJ, vJ, vJ] (by decide +kernel) (by omega) rfl (Nat.le_of_ble_eq_true rfl) ?_
    generalize hQ : rI ((min M ((enum (d + 1 + 1) s).filter (fwB F x k)).length : Nat) : Int) h = QQ
    obtain ⟨g, hg⟩ : ∃ g : Nat → List (Nat → Nat), g = fun v => (enum (d + 1) (up s k v)).filter (fwB F x k) := ⟨_, rfl⟩
    have htot : ((enum (d + 1 + 1) s).filter (fwB F x k)).length = (enV g 5).length := by rw [enum_s, enV_filter, e7, hg]
    have hmono : ∀ n e, (enV g n).length ≤ (enV g (n + e)).length := by
      intro n e
      induction e with
      | zero => exact Nat.le_refl _
      | succ e ih => rw [← Nat.add_assoc, enV_len]; omega
    have hlo : ∀ (e n : Nat), n + e = 5 → z_X l G mtX2_solutionsFrom lv 0 0 (QQ) 0 0 (h) 35 [vR z, vI k, vL x, vJ, vI M, vI ((min M (enV g n).length : Nat) : Int), vI n, vJ, vJ, vJ] [] := by
      intro e
      induction e with
      | zero =>
        intro n hn
        obtain rfl : n = 5 := by omega
        refine z_run1 tsX2_solutionsFrom [] 20 ?_
        simp (maxSteps := 1000000) -implicitDefEqProofs +contextual (disch := omega) only [z_wp_t, z_wp_u, ↓pI_e, ↓pL_e, ↓pO_e, ↓pR_e, ↓p1_I, ↓p1_O, z_gl, z_st1, z_st2, z_nl_I, z_nl_O, z_nl_J, z_nl_L, if_true, if_false, ite_true, ite_false, true_and, and_true, List.mem_cons, List.not_mem_nil, or_false, false_or, or_self, List.length_cons, List.length_nil, InR_t, InL_t, z_ix_t, mI_s1, mI_s2, ↓brT, ↓brF, ↓brT', ↓brF', mL_sI, mR_sI, mK_sI, mS_sI, mI_sL, mL_s1, mL_s2, mR_sL, mK_sL, mS_sL, mI_sR, mL_sR, mR_s1, mR_s2, mK_sR, mS_sR, mA_s1, mA_s2, mL_sA, mR_sA, mK_sA, mS_sA, ix_n, ix_a, ix_m, ix_s, z_sw, z_stop, forall_const, true_implies, false_implies, imp_self, implies_true, not_true_eq_false, not_false_eq_true, ne_eq, eq_self, Option.some.injEq, reduceCtorEq, Nat.reduceAdd, Nat.reduceSub, Nat.reduceMul, Nat.reduceEqDiff, Nat.reduceLT, Nat.reduceLeDiff, Int.reduceAdd, Int.reduceMul, Int.reduceSub, Int.reduceNeg, Int.reduceToNat, Int.reduceLT, Int.reduceLE, Int.reduceEq, ↓reduceIte, List.reverse_cons, Option.toList, List.cons_append, List.nil_append, vI_inj, vL_inj, vO_inj, rI, rL, rO, rV, mI_sQ, mL_sQ, mK_sQ, mS_sQ, mQ_s1, mQ_s2, iL_and, iL_or, iL_xor, iL_shl, iL_ushr, iR_and, iR_or, iR_xor, iR_shl, iR_shr, iR_ushr, iR_cmp, yc0, tlX2_solutionsFrom, tkX2_solutionsFrom, o_aload, o_getR, o_goto, o_iadd, o_ic, o_icge, o_iclt, o_iflt, o_ifne, o_ifnull, o_iinc, o_iload, o_imul, o_iret, o_istore, o_isub, o_lald, o_land, o_lc, o_lcmp, o_lload, o_lstore, o_lushr]
        try simp +contextual (disch := omega) only [impF, impT, and_true, true_and, implies_true, not_false_eq_true, not_true_eq_false]
        rw [← hQ, htot]
        exact ⟨rfl, rfl⟩
      | succ e ih =>
        intro n hn
        by_cases hfull : M ≤ (enV g n).length
        · have hm2 := hmono n (e + 1)
          rw [hn] at hm2
          have e1 : min M (enV g n).length = M := by omega
          rw [e1]
          refine z_run1 tsX2_solutionsFrom [] 20 ?_
          simp (maxSteps := 1000000) -implicitDefEqProofs +contextual (disch := omega) only [z_wp_t, z_wp_u, ↓pI_e, ↓pL_e, ↓pO_e, ↓pR_e, ↓p1_I, ↓p1_O, z_gl, z_st1, z_st2, z_nl_I, z_nl_O, z_nl_J, z_nl_L, if_true, if_false, ite_true, ite_false, true_and, and_true, List.mem_cons, List.not_mem_nil, or_false, false_or, or_self, List.length_cons, List.length_nil, InR_t, InL_t, z_ix_t, mI_s1, mI_s2, ↓brT, ↓brF, ↓brT', ↓brF', mL_sI, mR_sI, mK_sI, mS_sI, mI_sL, mL_s1, mL_s2, mR_sL, mK_sL, mS_sL, mI_sR, mL_sR, mR_s1, mR_s2, mK_sR, mS_sR, mA_s1, mA_s2, mL_sA, mR_sA, mK_sA, mS_sA, ix_n, ix_a, ix_m, ix_s, z_sw, z_stop, forall_const, true_implies, false_implies, imp_self, implies_true, not_true_eq_false, not_false_eq_true, ne_eq, eq_self, Option.some.injEq, reduceCtorEq, Nat.reduceAdd, Nat.reduceSub, Nat.reduceMul, Nat.reduceEqDiff, Nat.reduceLT, Nat.reduceLeDiff, Int.reduceAdd, Int.reduceMul, Int.reduceSub, Int.reduceNeg, Int.reduceToNat, Int.reduceLT, Int.reduceLE, Int.reduceEq, ↓reduceIte, List.reverse_cons, Option.toList, List.cons_append, List.nil_append, vI_inj, vL_inj, vO_inj, rI, rL, rO, rV, mI_sQ, mL_sQ, mK_sQ, mS_sQ, mQ_s1, mQ_s2, iL_and, iL_or, iL_xor, iL_shl, iL_ushr, iR_and, iR_or, iR_xor, iR_shl, iR_shr, iR_ushr, iR_cmp, yc0, tlX2_solutionsFrom, tkX2_solutionsFrom, o_aload, o_getR, o_goto, o_iadd, o_ic, o_icge, o_iclt, o_iflt, o_ifne, o_ifnull, o_iinc, o_iload, o_imul, o_iret, o_istore, o_isub, o_lald, o_land, o_lc, o_lcmp, o_lload, o_lstore, o_lushr]
          try simp +contextual (disch := omega) only [impF, impT, and_true, true_and, implies_true, not_false_eq_true, not_true_eq_false]
          rw [← hQ, htot, show min M (enV g 5).length = M by omega]
          exact ⟨rfl, rfl⟩
        · have e1 : min M (enV g n).length = (enV g n).length := by omega
          have hlen := enV_len g n
          have hnx := ih (n + 1) (by omega)
          rw [e1]
          have hbit := y_bit x (k := 5 * k + n) (by omega)
          rw [show ((5 * k + n : Nat) : Int) = 5 * (k : Int) + (n : Int) by omega] at hbit
          have skip : (g n).length = 0 → z_X l G mtX2_solutionsFrom lv 0 0 (QQ) 0 0 (h) 113 [vR z, vI k, vL x, vJ, vI M, vI (((enV g n).length : Nat) : Int), vI n, vJ, vJ, vJ] [] := by
            intro hz
            rw [show min M (enV g (n + 1)).length = (enV g n).length by omega] at hnx
            refine z_run1 tsX2_solutionsFrom [35] 20 ?_
            simp (maxSteps := 1000000) -implicitDefEqProofs +contextual (disch := omega) only [z_wp_t, z_wp_u, ↓pI_e, ↓pL_e, ↓pO_e, ↓pR_e, ↓p1_I, ↓p1_O, z_gl, z_st1, z_st2, z_nl_I, z_nl_O, z_nl_J, z_nl_L, if_true, if_false, ite_true, ite_false, true_and, and_true, List.mem_cons, List.not_mem_nil, or_false, false_or, or_self, List.length_cons, List.length_nil, InR_t, InL_t, z_ix_t, mI_s1, mI_s2, ↓brT, ↓brF, ↓brT', ↓brF', mL_sI, mR_sI, mK_sI, mS_sI, mI_sL, mL_s1, mL_s2, mR_sL, mK_sL, mS_sL, mI_sR, mL_sR, mR_s1, mR_s2, mK_sR, mS_sR, mA_s1, mA_s2, mL_sA, mR_sA, mK_sA, mS_sA, ix_n, ix_a, ix_m, ix_s, z_sw, z_stop, forall_const, true_implies, false_implies, imp_self, implies_true, not_true_eq_false, not_false_eq_true, ne_eq, eq_self, Option.some.injEq, reduceCtorEq, Nat.reduceAdd, Nat.reduceSub, Nat.reduceMul, Nat.reduceEqDiff, Nat.reduceLT, Nat.reduceLeDiff, Int.reduceAdd, Int.reduceMul, Int.reduceSub, Int.reduceNeg, Int.reduceToNat, Int.reduceLT, Int.reduceLE, Int.reduceEq, ↓reduceIte, List.reverse_cons, Option.toList, List.cons_append, List.nil_append, vI_inj, vL_inj, vO_inj, rI, rL, rO, rV, mI_sQ, mL_sQ, mK_sQ, mS_sQ, mQ_s1, mQ_s2, iL_and, iL_or, iL_xor, iL_shl, iL_ushr, iR_and, iR_or, iR_xor, iR_shl, iR_shr, iR_ushr, iR_cmp, yc0, tlX2_solutionsFrom, tkX2_solutionsFrom, o_aload, o_getR, o_goto, o_iadd, o_ic, o_icge, o_iclt, o_iflt, o_ifne, o_ifnull, o_iinc, o_iload, o_imul, o_iret, o_istore, o_isub, o_lald, o_land, o_lc, o_lcmp, o_lload, o_lstore, o_lushr]
            try simp +contextual (disch := omega) only [impF, impT, and_true, true_and, implies_true, not_false_eq_true, not_true_eq_false]
            exact hnx
          generalize hT : (enV g n).length = T at *
          cases hb : lb x (5 * k + n)
          · rw [hb] at hbit
            simp only [Bool.false_eq_true, if_false] at hbit
            have hp0 : ¬ pkL 0 = 35468117025 := by
              rw [pkL_eq]
              intro q
              have := q 0 (by omega)
              simp [pk, lb_0] at this
            refine z_run1 tsX2_solutionsFrom [] 30 ?_
            simp (maxSteps := 1000000) -implicitDefEqProofs +contextual (disch := omega) only [z_wp_t, z_wp_u, ↓pI_e, ↓pL_e, ↓pO_e, ↓pR_e, ↓p1_I, ↓p1_O, z_gl, z_st1, z_st2, z_nl_I, z_nl_O, z_nl_J, z_nl_L, if_true, if_false, ite_true, ite_false, true_and, and_true, List.mem_cons, List.not_mem_nil, or_false, false_or, or_self, List.length_cons, List.length_nil, InR_t, InL_t, z_ix_t, mI_s1, mI_s2, ↓brT, ↓brF, ↓brT', ↓brF', mL_sI, mR_sI, mK_sI, mS_sI, mI_sL, mL_s1, mL_s2, mR_sL, mK_sL, mS_sL, mI_sR, mL_sR, mR_s1, mR_s2, mK_sR, mS_sR, mA_s1, mA_s2, mL_sA, mR_sA, mK_sA, mS_sA, ix_n, ix_a, ix_m, ix_s, z_sw, z_stop, forall_const, true_implies, false_implies, imp_self, implies_true, not_true_eq_false, not_false_eq_true, ne_eq, eq_self, Option.some.injEq, reduceCtorEq, Nat.reduceAdd, Nat.reduceSub, Nat.reduceMul, Nat.reduceEqDiff, Nat.reduceLT, Nat.reduceLeDiff, Int.reduceAdd, Int.reduceMul, Int.reduceSub, Int.reduceNeg, Int.reduceToNat, Int.reduceLT, Int.reduceLE, Int.reduceEq, ↓reduceIte, List.reverse_cons, Option.toList, List.cons_append, List.nil_append, vI_inj, vL_inj, vO_inj, rI, rL, rO, rV, mI_sQ, mL_sQ, mK_sQ, mS_sQ, mQ_s1, mQ_s2, iL_and, iL_or, iL_xor, iL_shl, iL_ushr, iR_and, iR_or, iR_xor, iR_shl, iR_shr, iR_ushr, iR_cmp, yc0, tlX2_solutionsFrom, tkX2_solutionsFrom, o_aload, o_getR, o_goto, o_iadd, o_ic, o_icge, o_iclt, o_iflt, o_ifne, o_ifnull, o_iinc, o_iload, o_imul, o_iret, o_istore, o_isub, o_lald, o_land, o_lc, o_lcmp, o_lload, o_lstore, o_lushr, hbit]
            try simp +contextual (disch := omega) only [impF, impT, and_true, true_and, implies_true, not_false_eq_true, not_true_eq_false]
            refine x_callS (by decide +kernel) cv_X2_110 (sp_packsOf l G _ 0 1 (by omega)) (by omega) rfl (by omega) (by omega) rfl (Nat.le_of_ble_eq_true rfl) ?_
            rintro r h' ⟨rfl, hE⟩
            subst h'
            refine z_run1 tsX2_solutionsFrom [113] 20 ?_
            simp (maxSteps := 1000000) -implicitDefEqProofs +contextual (disch := omega) only [z_wp_t, z_wp_u, ↓pI_e, ↓pL_e, ↓pO_e, ↓pR_e, ↓p1_I, ↓p1_O, z_gl, z_st1, z_st2, z_nl_I, z_nl_O, z_nl_J, z_nl_L, if_true, if_false, ite_true, ite_false, true_and, and_true, List.mem_cons, List.not_mem_nil, or_false, false_or, or_self, List.length_cons, List.length_nil, InR_t, InL_t, z_ix_t, mI_s1, mI_s2, ↓brT, ↓brF, ↓brT', ↓brF', mL_sI, mR_sI, mK_sI, mS_sI, mI_sL, mL_s1, mL_s2, mR_sL, mK_sL, mS_sL, mI_sR, mL_sR, mR_s1, mR_s2, mK_sR, mS_sR, mA_s1, mA_s2, mL_sA, mR_sA, mK_sA, mS_sA, ix_n, ix_a, ix_m, ix_s, z_sw, z_stop, forall_const, true_implies, false_implies, imp_self, implies_true, not_true_eq_false, not_false_eq_true, ne_eq, eq_self, Option.some.injEq, reduceCtorEq, Nat.reduceAdd, Nat.reduceSub, Nat.reduceMul, Nat.reduceEqDiff, Nat.reduceLT, Nat.reduceLeDiff, Int.reduceAdd, Int.reduceMul, Int.reduceSub, Int.reduceNeg, Int.reduceToNat, Int.reduceLT, Int.reduceLE, Int.reduceEq, ↓reduceIte, List.reverse_cons, Option.toList, List.cons_append, List.nil_append, vI_inj, vL_inj, vO_inj, rI, rL, rO, rV, mI_sQ, mL_sQ, mK_sQ, mS_sQ, mQ_s1, mQ_s2, iL_and, iL_or, iL_xor, iL_shl, iL_ushr, iR_and, iR_or, iR_xor, iR_shl, iR_shr, iR_ushr, iR_cmp, yc0, tlX2_solutionsFrom, tkX2_solutionsFrom, o_aload, o_getR, o_goto, o_iadd, o_ic, o_icge, o_iclt, o_iflt, o_ifne, o_ifnull, o_iinc, o_iload, o_imul, o_iret, o_istore, o_isub, o_lald, o_land, o_lc, o_lcmp, o_lload, o_lstore, o_lushr, hp0, pkL_L]
            try simp +contextual (disch := omega) only [impF, impT, and_true, true_and, implies_true, not_false_eq_true, not_true_eq_false]
            refine x_wk [vR z, vI k, vL x, vJ, vI M, vI (T : Int), vI n, vJ, vJ, vJ] (by simp [z_wk]) ?_
            refine skip ?_
            rw [hg]
            show ((enum (d + 1) (up s k n)).filter (fwB F x k)).length = 0
            rw [filt_none (fun t ht => fwB_not (by omega) (enum_k (d := d + 1) (by omega) q4 (by omega) ht).1 hb)]
            rfl
          · rw [hb] at hbit
            simp only [if_true] at hbit
            refine z_run1 tsX2_solutionsFrom [] 30 ?_
            simp (maxSteps := 1000000) -implicitDefEqProofs +contextual (disch := omega) only [z_wp_t, z_wp_u, ↓pI_e, ↓pL_e, ↓pO_e, ↓pR_e, ↓p1_I, ↓p1_O, z_gl, z_st1, z_st2, z_nl_I, z_nl_O, z_nl_J, z_nl_L, if_true, if_false, ite_true, ite_false, true_and, and_true, List.mem_cons, List.not_mem_nil, or_false, false_or, or_self, List.length_cons, List.length_nil, InR_t, InL_t, z_ix_t, mI_s1, mI_s2, ↓brT, ↓brF, ↓brT', ↓brF', mL_sI, mR_sI, mK_sI, mS_sI, mI_sL, mL_s1, mL_s2, mR_sL, mK_sL, mS_sL, mI_sR, mL_sR, mR_s1, mR_s2, mK_sR, mS_sR, mA_s1, mA_s2, mL_sA, mR_sA, mK_sA, mS_sA, ix_n, ix_a, ix_m, ix_s, z_sw, z_stop, forall_const, true_implies, false_implies, imp_self, implies_true, not_true_eq_false, not_false_eq_true, ne_eq, eq_self, Option.some.injEq, reduceCtorEq, Nat.reduceAdd, Nat.reduceSub, Nat.reduceMul, Nat.reduceEqDiff, Nat.reduceLT, Nat.reduceLeDiff, Int.reduceAdd, Int.reduceMul, Int.reduceSub, Int.reduceNeg, Int.reduceToNat, Int.reduceLT, Int.reduceLE, Int.reduceEq, ↓reduceIte, List.reverse_cons, Option.toList, List.cons_append, List.nil_append, vI_inj, vL_inj, vO_inj, rI, rL, rO, rV, mI_sQ, mL_sQ, mK_sQ, mS_sQ, mQ_s1, mQ_s2, iL_and, iL_or, iL_xor, iL_shl, iL_ushr, iR_and, iR_or, iR_xor, iR_shl, iR_shr, iR_ushr, iR_cmp, yc0, tlX2_solutionsFrom, tkX2_solutionsFrom, o_aload, o_getR, o_goto, o_iadd, o_ic, o_icge, o_iclt, o_iflt, o_ifne, o_ifnull, o_iinc, o_iload, o_imul, o_iret, o_istore, o_isub, o_lald, o_land, o_lc, o_lcmp, o_lload, o_lstore, o_lushr, hbit, k0, k5, r4, hF]
            try simp +contextual (disch := omega) only [impF, impT, and_true, true_and, implies_true, not_false_eq_true, not_true_eq_false]
            refine x_callS (by decide +kernel) cv_X2_110 (sp_packsOf l G _ (y_and x (F (5 * k + n))) 1 (by omega)) (by omega) rfl (by omega) (by omega) rfl (Nat.le_of_ble_eq_true rfl) ?_
            rintro r h' ⟨rfl, hE⟩
            subst h'
            have hfil : g n = (enum (d + 1) (up s k n)).filter (fwB F (y_and x (F (5 * k + n))) (k + 1)) := by rw [hg]; exact filt_congr fun t ht => fwB_down (by omega) (enum_k (d := d + 1) (by omega) q4 (by omega) ht).1 hb
            by_cases hp : ∀ p, p < 8 → pk (y_and x (F (5 * k + n))) p = true
            · have hpe := pkL_eq.mpr hp
              have hdec := nx_dec (by omega) (by omega) hown q3 hp
              refine z_run1 tsX2_solutionsFrom [] 20 ?_
              simp (maxSteps := 1000000) -implicitDefEqProofs +contextual (disch := omega) only [z_wp_t, z_wp_u, ↓pI_e, ↓pL_e, ↓pO_e, ↓pR_e, ↓p1_I, ↓p1_O, z_gl, z_st1, z_st2, z_nl_I, z_nl_O, z_nl_J, z_nl_L, if_true, if_false, ite_true, ite_false, true_and, and_true, List.mem_cons, List.not_mem_nil, or_false, false_or, or_self, List.length_cons, List.length_nil, InR_t, InL_t, z_ix_t, mI_s1, mI_s2, ↓brT, ↓brF, ↓brT', ↓brF', mL_sI, mR_sI, mK_sI, mS_sI, mI_sL, mL_s1, mL_s2, mR_sL, mK_sL, mS_sL, mI_sR, mL_sR, mR_s1, mR_s2, mK_sR, mS_sR, mA_s1, mA_s2, mL_sA, mR_sA, mK_sA, mS_sA, ix_n, ix_a, ix_m, ix_s, z_sw, z_stop, forall_const, true_implies, false_implies, imp_self, implies_true, not_true_eq_false, not_false_eq_true, ne_eq, eq_self, Option.some.injEq, reduceCtorEq, Nat.reduceAdd, Nat.reduceSub, Nat.reduceMul, Nat.reduceEqDiff, Nat.reduceLT, Nat.reduceLeDiff, Int.reduceAdd, Int.reduceMul, Int.reduceSub, Int.reduceNeg, Int.reduceToNat, Int.reduceLT, Int.reduceLE, Int.reduceEq, ↓reduceIte, List.reverse_cons, Option.toList, List.cons_append, List.nil_append, vI_inj, vL_inj, vO_inj, rI, rL, rO, rV, mI_sQ, mL_sQ, mK_sQ, mS_sQ, mQ_s1, mQ_s2, iL_and, iL_or, iL_xor, iL_shl, iL_ushr, iR_and, iR_or, iR_xor, iR_shl, iR_shr, iR_ushr, iR_cmp, yc0, tlX2_solutionsFrom, tkX2_solutionsFrom, o_aload, o_getR, o_goto, o_iadd, o_ic, o_icge, o_iclt, o_iflt, o_ifne, o_ifnull, o_iinc, o_iload, o_imul, o_iret, o_istore, o_isub, o_lald, o_land, o_lc, o_lcmp, o_lload, o_lstore, o_lushr, hpe]
              try simp +contextual (disch := omega) only [impF, impT, and_true, true_and, implies_true, not_false_eq_true, not_true_eq_false]
              have hrec := ihd (k + 1) (up s k n) (y_and x (F (5 * k + n))) (M - T) (by omega) (by omega) ⟨InL_and _ _, fun j hj => by rw [lb_and, q2 j hj]; rfl, hdec, fun p hp => by
                by_cases e : p = k
                · rw [e, up_s]; omega
                · rw [up_n _ _ e]; exact q4 p (by omega), fun p q w hp hq hw hl => by
                rw [lb_and] at hl
                simp at hl
                by_cases e : p = k
                · rw [e, up_s]; exact hl.2
                · rw [up_n _ _ e]; exact q5 p q w (by omega) hq hw hl.1⟩ (d + 2) (by omega)
              rw [show ((k + 1 : Nat) : Int) = (k : Int) + 1 by omega, show ((M - T : Nat) : Int) = (M : Int) - (T : Int) by omega, ← hfil] at hrec
              refine x_callS (by decide +kernel) cv_X2_140 (hrec) (by omega) rfl (by omega) (by omega) rfl (Nat.le_of_ble_eq_true rfl) ?_
              rintro r h' ⟨rfl, hE⟩
              subst h'
              rw [show ((min M (enV g (n + 1)).length : Nat) : Int) = (T : Int) + ((min (M - T) (g n).length : Nat) : Int) by omega] at hnx
              refine z_run1 tsX2_solutionsFrom [35] 20 ?_
              simp (maxSteps := 1000000) -implicitDefEqProofs +contextual (disch := omega) only [z_wp_t, z_wp_u, ↓pI_e, ↓pL_e, ↓pO_e, ↓pR_e, ↓p1_I, ↓p1_O, z_gl, z_st1, z_st2, z_nl_I, z_nl_O, z_nl_J, z_nl_L, if_true, if_false, ite_true, ite_false, true_and, and_true, List.mem_cons, List.not_mem_nil, or_false, false_or, or_self, List.length_cons, List.length_nil, InR_t, InL_t, z_ix_t, mI_s1, mI_s2, ↓brT, ↓brF, ↓brT', ↓brF', mL_sI, mR_sI, mK_sI, mS_sI, mI_sL, mL_s1, mL_s2, mR_sL, mK_sL, mS_sL, mI_sR, mL_sR, mR_s1, mR_s2, mK_sR, mS_sR, mA_s1, mA_s2, mL_sA, mR_sA, mK_sA, mS_sA, ix_n, ix_a, ix_m, ix_s, z_sw, z_stop, forall_const, true_implies, false_implies, imp_self, implies_true, not_true_eq_false, not_false_eq_true, ne_eq, eq_self, Option.some.injEq, reduceCtorEq, Nat.reduceAdd, Nat.reduceSub, Nat.reduceMul, Nat.reduceEqDiff, Nat.reduceLT, Nat.reduceLeDiff, Int.reduceAdd, Int.reduceMul, Int.reduceSub, Int.reduceNeg, Int.reduceToNat, Int.reduceLT, Int.reduceLE, Int.reduceEq, ↓reduceIte, List.reverse_cons, Option.toList, List.cons_append, List.nil_append, vI_inj, vL_inj, vO_inj, rI, rL, rO, rV, mI_sQ, mL_sQ, mK_sQ, mS_sQ, mQ_s1, mQ_s2, iL_and, iL_or, iL_xor, iL_shl, iL_ushr, iR_and, iR_or, iR_xor, iR_shl, iR_shr, iR_ushr, iR_cmp, yc0, tlX2_solutionsFrom, tkX2_solutionsFrom, o_aload, o_getR, o_goto, o_iadd, o_ic, o_icge, o_iclt, o_iflt, o_ifne, o_ifnull, o_iinc, o_iload, o_imul, o_iret, o_istore, o_isub, o_lald, o_land, o_lc, o_lcmp, o_lload, o_lstore, o_lushr]
              try simp +contextual (disch := omega) only [impF, impT, and_true, true_and, implies_true, not_false_eq_true, not_true_eq_false]
              refine x_wk [vR z, vI k, vL x, vJ, vI M, vI ((T : Int) + ((min (M - T) (g n).length : Nat) : Int)), vI ((n + 1 : Nat) : Int), vJ, vJ, vJ] (by simp [z_wk]) ?_
              exact hnx
            · have hpe : ¬ pkL (y_and x (F (5 * k + n))) = 35468117025 := fun q => hp (pkL_eq.mp q)
              refine z_run1 tsX2_solutionsFrom [113] 20 ?_
              simp (maxSteps := 1000000) -implicitDefEqProofs +contextual (disch := omega) only [z_wp_t, z_wp_u, ↓pI_e, ↓pL_e, ↓pO_e, ↓pR_e, ↓p1_I, ↓p1_O, z_gl, z_st1, z_st2, z_nl_I, z_nl_O, z_nl_J, z_nl_L, if_true, if_false, ite_true, ite_false, true_and, and_true, List.mem_cons, List.not_mem_nil, or_false, false_or, or_self, List.length_cons, List.length_nil, InR_t, InL_t, z_ix_t, mI_s1, mI_s2, ↓brT, ↓brF, ↓brT', ↓brF', mL_sI, mR_sI, mK_sI, mS_sI, mI_sL, mL_s1, mL_s2, mR_sL, mK_sL, mS_sL, mI_sR, mL_sR, mR_s1, mR_s2, mK_sR, mS_sR, mA_s1, mA_s2, mL_sA, mR_sA, mK_sA, mS_sA, ix_n, ix_a, ix_m, ix_s, z_sw, z_stop, forall_const, true_implies, false_implies, imp_self, implies_true, not_true_eq_false, not_false_eq_true, ne_eq, eq_self, Option.some.injEq, reduceCtorEq, Nat.reduceAdd, Nat.reduceSub, Nat.reduceMul, Nat.reduceEqDiff, Nat.reduceLT, Nat.reduceLeDiff, Int.reduceAdd, Int.reduceMul, Int.reduceSub, Int.reduceNeg, Int.reduceToNat, Int.reduceLT, Int.reduceLE, Int.reduceEq, ↓reduceIte, List.reverse_cons, Option.toList, List.cons_append, List.nil_append, vI_inj, vL_inj, vO_inj, rI, rL, rO, rV, mI_sQ, mL_sQ, mK_sQ, mS_sQ, mQ_s1, mQ_s2, iL_and, iL_or, iL_xor, iL_shl, iL_ushr, iR_and, iR_or, iR_xor, iR_shl, iR_shr, iR_ushr, iR_cmp, yc0, tlX2_solutionsFrom, tkX2_solutionsFrom, o_aload, o_getR, o_goto, o_iadd, o_ic, o_icge, o_iclt, o_iflt, o_ifne, o_ifnull, o_iinc, o_iload, o_imul, o_iret, o_istore, o_isub, o_lald, o_land, o_lc, o_lcmp, o_lload, o_lstore, o_lushr, hpe, pkL_L]
              try simp +contextual (disch := omega) only [impF, impT, and_true, true_and, implies_true, not_false_eq_true, not_true_eq_false]
              refine x_wk [vR z, vI k, vL x, vJ, vI M, vI (T : Int), vI n, vJ, vJ, vJ] (by simp [z_wk]) ?_
              refine skip ?_
              rw [hfil, filt_none (fun t ht => fwB_np (enum_k (d := d + 1) (by omega) q4 (by omega) ht).2.2 hp)]
              rfl
    have h0 := hlo 5 0 (by omega)
    rw [show min M (enV g 0).length = 0 by simp [enV]] at h0
    refine z_run1 tsX2_solutionsFrom [35] 20 ?_
    simp (maxSteps := 1000000) -implicitDefEqProofs +contextual (disch := omega) only [z_wp_t, z_wp_u, ↓pI_e, ↓pL_e, ↓pO_e, ↓pR_e, ↓p1_I, ↓p1_O, z_gl, z_st1, z_st2, z_nl_I, z_nl_O, z_nl_J, z_nl_L, if_true, if_false, ite_true, ite_false, true_and, and_true, List.mem_cons, List.not_mem_nil, or_false, false_or, or_self, List.length_cons, List.length_nil, InR_t, InL_t, z_ix_t, mI_s1, mI_s2, ↓brT, ↓brF, ↓brT', ↓brF', mL_sI, mR_sI, mK_sI, mS_sI, mI_sL, mL_s1, mL_s2, mR_sL, mK_sL, mS_sL, mI_sR, mL_sR, mR_s1, mR_s2, mK_sR, mS_sR, mA_s1, mA_s2, mL_sA, mR_sA, mK_sA, mS_sA, ix_n, ix_a, ix_m, ix_s, z_sw, z_stop, forall_const, true_implies, false_implies, imp_self, implies_true, not_true_eq_false, not_false_eq_true, ne_eq, eq_self, Option.some.injEq, reduceCtorEq, Nat.reduceAdd, Nat.reduceSub, Nat.reduceMul, Nat.reduceEqDiff, Nat.reduceLT, Nat.reduceLeDiff, Int.reduceAdd, Int.reduceMul, Int.reduceSub, Int.reduceNeg, Int.reduceToNat, Int.reduceLT, Int.reduceLE, Int.reduceEq, ↓reduceIte, List.reverse_cons, Option.toList, List.cons_append, List.nil_append, vI_inj, vL_inj, vO_inj, rI, rL, rO, rV, mI_sQ, mL_sQ, mK_sQ, mS_sQ, mQ_s1, mQ_s2, iL_and, iL_or, iL_xor, iL_shl, iL_ushr, iR_and, iR_or, iR_xor, iR_shl, iR_shr, iR_ushr, iR_cmp, yc0, tlX2_solutionsFrom, tkX2_solutionsFrom, o_aload, o_getR, o_goto, o_iadd, o_ic, o_icge, o_iclt, o_iflt, o_ifne, o_ifnull, o_iinc, o_iload, o_imul, o_iret, o_istore, o_isub, o_lald, o_land, o_lc, o_lcmp, o_lload, o_lstore, o_lushr]
    try simp +contextual (disch := omega) only [impF, impT, and_true, true_and, implies_true, not_false_eq_true, not_true_eq_false]
    exact h0
set_option maxHeartbeats 4000000 in
theorem sp_solutionsOf (l : Launch) (G : zG) (h : zH) (z M : Nat) (m : Int) (A : zA) (hsh : ShP h z) (hD : PzD h z A) (hA : AOK A) (hm : 0 ≤ m ∧ m < 1048576) (hmb : ∀ r, tb m r = true → r < aC A) (hI : PzI h z A) (hnl : NlOK h z) (hM : M ≤ 1000) (lv : Nat) (hlv : 11 ≤ lv) : z_Sp l G mtX2_solutionsOf lv 0 0 [vR z, vI m, vI M] (h) (fun r h' => r = some (vI ((min M (solL A (tb m)).length : Nat) : Int)) ∧ PzN h h' z A m) := by
  have k0 := hsh.1
  refine x_enter [vR z, vI m, vI M] (by decide +kernel) (by omega) rfl (Nat.le_of_ble_eq_true rfl) ?_
  generalize hQ : (fun (r : Option zV) (h' : zH) => r = some (vI ((min M (solL A (tb m)).length : Nat) : Int)) ∧ PzN h h' z A m) = QQ
  refine z_run1 tsX2_solutionsOf [] 20 ?_
  simp (maxSteps := 1000000) -implicitDefEqProofs +contextual (disch := omega) only [z_wp_t, z_wp_u, ↓pI_e, ↓pL_e, ↓pO_e, ↓pR_e, ↓p1_I, ↓p1_O, z_gl, z_st1, z_st2, z_nl_I, z_nl_O, z_nl_J, z_nl_L, if_true, if_false, ite_true, ite_false, true_and, and_true, List.mem_cons, List.not_mem_nil, or_false, false_or, or_self, List.length_cons, List.length_nil, InR_t, InL_t, z_ix_t, mI_s1, mI_s2, ↓brT, ↓brF, ↓brT', ↓brF', mL_sI, mR_sI, mK_sI, mS_sI, mI_sL, mL_s1, mL_s2, mR_sL, mK_sL, mS_sL, mI_sR, mL_sR, mR_s1, mR_s2, mK_sR, mS_sR, mA_s1, mA_s2, mL_sA, mR_sA, mK_sA, mS_sA, ix_n, ix_a, ix_m, ix_s, z_sw, z_stop, forall_const, true_implies, false_implies, imp_self, implies_true, not_true_eq_false, not_false_eq_true, ne_eq, eq_self, Option.some.injEq, reduceCtorEq, Nat.reduceAdd, Nat.reduceSub, Nat.reduceMul, Nat.reduceEqDiff, Nat.reduceLT, Nat.reduceLeDiff, Int.reduceAdd, Int.reduceMul, Int.reduceSub, Int.reduceNeg, Int.reduceToNat, Int.reduceLT, Int.reduceLE, Int.reduceEq, ↓reduceIte, List.reverse_cons, Option.toList, List.cons_append, List.nil_append, vI_inj, vL_inj, vO_inj, rI, rL, rO, rV, mI_sQ, mL_sQ, mK_sQ, mS_sQ, mQ_s1, mQ_s2, iL_and, iL_or, iL_xor, iL_shl, iL_ushr, iR_and, iR_or, iR_xor, iR_shl, iR_shr, iR_ushr, iR_cmp, yc0, tlX2_solutionsOf, tkX2_solutionsOf, o_aload, o_getL, o_goto, o_ic, o_ifne, o_iload, o_iret, o_lc, o_lcmp]
  try simp +contextual (disch := omega) only [impF, impT, and_true, true_and, implies_true, not_false_eq_true, not_true_eq_false]
  refine x_callV (by decide +kernel) cv_X2_116 (sp_impose l G h z m A hsh hD hA hm hmb hI 3 (by omega)) k0 (by omega) rfl (by omega) (by omega) rfl (Nat.le_of_ble_eq_true rfl) ?_
  rintro r h1 ⟨rfl, O, F, hh1, hI1⟩
  have hN1 : PzN h h1 z A m := by rw [hh1] at hI1 ⊢; exact PzN.mk' hD hnl hI1
  have hsh1 : ShP h1 z := hsh.ofR hN1.1.K (by rw [hN1.2.1])
  have k1 := hsh1.1
  have hfil := hI1.fil
  obtain ⟨X, hX8⟩ : ∃ X, gL h1 z 8 = X := ⟨_, rfl⟩
  rw [hX8] at hfil
  refine z_run1 tsX2_solutionsOf [] 20 ?_
  simp (maxSteps := 1000000) -implicitDefEqProofs +contextual (disch := omega) only [z_wp_t, z_wp_u, ↓pI_e, ↓pL_e, ↓pO_e, ↓pR_e, ↓p1_I, ↓p1_O, z_gl, z_st1, z_st2, z_nl_I, z_nl_O, z_nl_J, z_nl_L, if_true, if_false, ite_true, ite_false, true_and, and_true, List.mem_cons, List.not_mem_nil, or_false, false_or, or_self, List.length_cons, List.length_nil, InR_t, InL_t, z_ix_t, mI_s1, mI_s2, ↓brT, ↓brF, ↓brT', ↓brF', mL_sI, mR_sI, mK_sI, mS_sI, mI_sL, mL_s1, mL_s2, mR_sL, mK_sL, mS_sL, mI_sR, mL_sR, mR_s1, mR_s2, mK_sR, mS_sR, mA_s1, mA_s2, mL_sA, mR_sA, mK_sA, mS_sA, ix_n, ix_a, ix_m, ix_s, z_sw, z_stop, forall_const, true_implies, false_implies, imp_self, implies_true, not_true_eq_false, not_false_eq_true, ne_eq, eq_self, Option.some.injEq, reduceCtorEq, Nat.reduceAdd, Nat.reduceSub, Nat.reduceMul, Nat.reduceEqDiff, Nat.reduceLT, Nat.reduceLeDiff, Int.reduceAdd, Int.reduceMul, Int.reduceSub, Int.reduceNeg, Int.reduceToNat, Int.reduceLT, Int.reduceLE, Int.reduceEq, ↓reduceIte, List.reverse_cons, Option.toList, List.cons_append, List.nil_append, vI_inj, vL_inj, vO_inj, rI, rL, rO, rV, mI_sQ, mL_sQ, mK_sQ, mS_sQ, mQ_s1, mQ_s2, iL_and, iL_or, iL_xor, iL_shl, iL_ushr, iR_and, iR_or, iR_xor, iR_shl, iR_shr, iR_ushr, iR_cmp, yc0, tlX2_solutionsOf, tkX2_solutionsOf, o_aload, o_getL, o_goto, o_ic, o_ifne, o_iload, o_iret, o_lc, o_lcmp, k1, hX8]
  try simp +contextual (disch := omega) only [impF, impT, and_true, true_and, implies_true, not_false_eq_true, not_true_eq_false]
  refine x_callS (by decide +kernel) cv_X2_110 (sp_packsOf l G _ X 1 (by omega)) (by omega) rfl (by omega) (by omega) rfl (Nat.le_of_ble_eq_true rfl) ?_
  rintro r h' ⟨rfl, hE⟩
  subst h'
  by_cases hp : ∀ p, p < 8 → pk X p = true
  · have hpe := pkL_eq.mpr hp
    have hrec := sp_solutionsFrom l G h1 z _ X hsh1 rfl (by rw [← hX8]; exact hI1.2.1) hI1.2.2.2.1.1 hI1.2.2.2.1.2 (by rw [← hX8]; exact hI1.2.2.2.2.1) 7 0 s0 X M (by omega) hM ⟨by rw [← hX8]; exact hI1.1, fun j hj => hj, fun p v hp => by omega, fun p hp => by omega, fun p q w hp => by omega⟩ 9 (by omega)
    rw [hfil] at hrec
    refine z_run1 tsX2_solutionsOf [] 20 ?_
    simp (maxSteps := 1000000) -implicitDefEqProofs +contextual (disch := omega) only [z_wp_t, z_wp_u, ↓pI_e, ↓pL_e, ↓pO_e, ↓pR_e, ↓p1_I, ↓p1_O, z_gl, z_st1, z_st2, z_nl_I, z_nl_O, z_nl_J, z_nl_L, if_true, if_false, ite_true, ite_false, true_and, and_true, List.mem_cons, List.not_mem_nil, or_false, false_or, or_self, List.length_cons, List.length_nil, InR_t, InL_t, z_ix_t, mI_s1, mI_s2, ↓brT, ↓brF, ↓brT', ↓brF', mL_sI, mR_sI, mK_sI, mS_sI, mI_sL, mL_s1, mL_s2, mR_sL, mK_sL, mS_sL, mI_sR, mL_sR, mR_s1, mR_s2, mK_sR, mS_sR, mA_s1, mA_s2, mL_sA, mR_sA, mK_sA, mS_sA, ix_n, ix_a, ix_m, ix_s, z_sw, z_stop, forall_const, true_implies, false_implies, imp_self, implies_true, not_true_eq_false, not_false_eq_true, ne_eq, eq_self, Option.some.injEq, reduceCtorEq, Nat.reduceAdd, Nat.reduceSub, Nat.reduceMul, Nat.reduceEqDiff, Nat.reduceLT, Nat.reduceLeDiff, Int.reduceAdd, Int.reduceMul, Int.reduceSub, Int.reduceNeg, Int.reduceToNat, Int.reduceLT, Int.reduceLE, Int.reduceEq, ↓reduceIte, List.reverse_cons, Option.toList, List.cons_append, List.nil_append, vI_inj, vL_inj, vO_inj, rI, rL, rO, rV, mI_sQ, mL_sQ, mK_sQ, mS_sQ, mQ_s1, mQ_s2, iL_and, iL_or, iL_xor, iL_shl, iL_ushr, iR_and, iR_or, iR_xor, iR_shl, iR_shr, iR_ushr, iR_cmp, yc0, tlX2_solutionsOf, tkX2_solutionsOf, o_aload, o_getL, o_goto, o_ic, o_ifne, o_iload, o_iret, o_lc, o_lcmp, hpe, k1, hX8]
    try simp +contextual (disch := omega) only [impF, impT, and_true, true_and, implies_true, not_false_eq_true, not_true_eq_false]
    refine x_callS (by decide +kernel) cv_X2_140 (hrec) (by omega) rfl (by omega) (by omega) rfl (Nat.le_of_ble_eq_true rfl) ?_
    rintro r h' ⟨rfl, hE⟩
    subst h'
    refine z_run1 tsX2_solutionsOf [] 20 ?_
    simp (maxSteps := 1000000) -implicitDefEqProofs +contextual (disch := omega) only [z_wp_t, z_wp_u, ↓pI_e, ↓pL_e, ↓pO_e, ↓pR_e, ↓p1_I, ↓p1_O, z_gl, z_st1, z_st2, z_nl_I, z_nl_O, z_nl_J, z_nl_L, if_true, if_false, ite_true, ite_false, true_and, and_true, List.mem_cons, List.not_mem_nil, or_false, false_or, or_self, List.length_cons, List.length_nil, InR_t, InL_t, z_ix_t, mI_s1, mI_s2, ↓brT, ↓brF, ↓brT', ↓brF', mL_sI, mR_sI, mK_sI, mS_sI, mI_sL, mL_s1, mL_s2, mR_sL, mK_sL, mS_sL, mI_sR, mL_sR, mR_s1, mR_s2, mK_sR, mS_sR, mA_s1, mA_s2, mL_sA, mR_sA, mK_sA, mS_sA, ix_n, ix_a, ix_m, ix_s, z_sw, z_stop, forall_const, true_implies, false_implies, imp_self, implies_true, not_true_eq_false, not_false_eq_true, ne_eq, eq_self, Option.some.injEq, reduceCtorEq, Nat.reduceAdd, Nat.reduceSub, Nat.reduceMul, Nat.reduceEqDiff, Nat.reduceLT, Nat.reduceLeDiff, Int.reduceAdd, Int.reduceMul, Int.reduceSub, Int.reduceNeg, Int.reduceToNat, Int.reduceLT, Int.reduceLE, Int.reduceEq, ↓reduceIte, List.reverse_cons, Option.toList, List.cons_append, List.nil_append, vI_inj, vL_inj, vO_inj, rI, rL, rO, rV, mI_sQ, mL_sQ, mK_sQ, mS_sQ, mQ_s1, mQ_s2, iL_and, iL_or, iL_xor, iL_shl, iL_ushr, iR_and, iR_or, iR_xor, iR_shl, iR_shr, iR_ushr, iR_cmp, yc0, tlX2_solutionsOf, tkX2_solutionsOf, o_aload, o_getL, o_goto, o_ic, o_ifne, o_iload, o_iret, o_lc, o_lcmp]
    try simp +contextual (disch := omega) only [impF, impT, and_true, true_and, implies_true, not_false_eq_true, not_true_eq_false]
    rw [← hQ]
    exact ⟨rfl, hN1⟩
  · have hpe : ¬ pkL X = 35468117025 := fun q => hp (pkL_eq.mp q)
    have hno : solL A (tb m) = [] := by
      rw [← hfil]
      exact filt_none fun t ht => fwB_np (enum_all.mp ht).1 hp
    refine z_run1 tsX2_solutionsOf [] 20 ?_
    simp (maxSteps := 1000000) -implicitDefEqProofs +contextual (disch := omega) only [z_wp_t, z_wp_u, ↓pI_e, ↓pL_e, ↓pO_e, ↓pR_e, ↓p1_I, ↓p1_O, z_gl, z_st1, z_st2, z_nl_I, z_nl_O, z_nl_J, z_nl_L, if_true, if_false, ite_true, ite_false, true_and, and_true, List.mem_cons, List.not_mem_nil, or_false, false_or, or_self, List.length_cons, List.length_nil, InR_t, InL_t, z_ix_t, mI_s1, mI_s2, ↓brT, ↓brF, ↓brT', ↓brF', mL_sI, mR_sI, mK_sI, mS_sI, mI_sL, mL_s1, mL_s2, mR_sL, mK_sL, mS_sL, mI_sR, mL_sR, mR_s1, mR_s2, mK_sR, mS_sR, mA_s1, mA_s2, mL_sA, mR_sA, mK_sA, mS_sA, ix_n, ix_a, ix_m, ix_s, z_sw, z_stop, forall_const, true_implies, false_implies, imp_self, implies_true, not_true_eq_false, not_false_eq_true, ne_eq, eq_self, Option.some.injEq, reduceCtorEq, Nat.reduceAdd, Nat.reduceSub, Nat.reduceMul, Nat.reduceEqDiff, Nat.reduceLT, Nat.reduceLeDiff, Int.reduceAdd, Int.reduceMul, Int.reduceSub, Int.reduceNeg, Int.reduceToNat, Int.reduceLT, Int.reduceLE, Int.reduceEq, ↓reduceIte, List.reverse_cons, Option.toList, List.cons_append, List.nil_append, vI_inj, vL_inj, vO_inj, rI, rL, rO, rV, mI_sQ, mL_sQ, mK_sQ, mS_sQ, mQ_s1, mQ_s2, iL_and, iL_or, iL_xor, iL_shl, iL_ushr, iR_and, iR_or, iR_xor, iR_shl, iR_shr, iR_ushr, iR_cmp, yc0, tlX2_solutionsOf, tkX2_solutionsOf, o_aload, o_getL, o_goto, o_ic, o_ifne, o_iload, o_iret, o_lc, o_lcmp, hpe, pkL_L]
    try simp +contextual (disch := omega) only [impF, impT, and_true, true_and, implies_true, not_false_eq_true, not_true_eq_false]
    rw [← hQ]
    exact ⟨by simp [hno], hN1⟩
