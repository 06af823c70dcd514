/-! the reference: narrowed -/
theorem opt_sur {i : Nat} (hi : i < 5) : ∃ v, v < 5 ∧ opt v = i := by
  by_cases e : i = 4
  · exact ⟨0, by omega, by rw [e]; rfl⟩
  · exact ⟨i + 1, by omega, by unfold opt; rw [if_neg (by omega)]; omega⟩
theorem msO_hi {x : Int} {f : Nat → Bool} (h : msO x f) {i : Nat} (h5 : 5 ≤ i) (hi : i < 32) : tb x i = false := by
  rw [tb_lb hi]; exact lb_msk h.1 h5
theorem msO_R {x : Int} {f : Nat → Bool} (h : msO x f) : InR x := by have := h.1; unfold InR; omega
theorem msO_eq {x y : Int} {f g : Nat → Bool} (hx : msO x f) (hy : msO y g) : x = y ↔ ∀ v, v < 5 → f v = g v := by
  constructor
  · intro e v hv; rw [← hx.2 v hv, ← hy.2 v hv, e]
  · intro h
    refine tb_ext (msO_R hx) (msO_R hy) fun i hi => ?_
    by_cases h5 : i < 5
    · obtain ⟨v, hv, rfl⟩ := opt_sur h5
      rw [hx.2 v hv, hy.2 v hv, h v hv]
    · rw [msO_hi hx (by omega) hi, msO_hi hy (by omega) hi]
theorem msO_and {x y : Int} {f g : Nat → Bool} (hx : msO x f) (hy : ∀ v, v < 5 → f v = true → tb y (opt v) = g v) : msO (z_and x y) (fun v => f v && g v) := by
  refine ⟨tb_small (n := 5) (by omega) (InR_and _ _) (fun i h1 h2 => by rw [tb_and, msO_hi hx h1 h2]; rfl), fun v hv => ?_⟩
  rw [tb_and, hx.2 v hv]
  cases hf : f v
  · simp [hf]
  · rw [hy v hv hf]; simp [hf]
theorem msO_zero {x : Int} {f : Nat → Bool} (hx : msO x f) : x = 0 ↔ ∀ v, v < 5 → f v = false := by
  have h0 : msO 0 (fun _ => false) := ⟨by omega, fun v _ => tb_0 _⟩
  exact msO_eq hx h0
theorem msO_all {x y : Int} {f g : Nat → Bool} (hx : msO x f) (hy : ∀ v, v < 5 → f v = true → tb y (opt v) = g v) : z_and x y = 0 ↔ allN (fun v => !f v || !g v) 5 = true := by
  rw [msO_zero (msO_and hx hy), allN_iff]
  constructor
  · intro h v hv; have := h v hv; cases hf : f v <;> cases hg : g v <;> simp_all
  · intro h v hv; have := h v hv; cases hf : f v <;> cases hg : g v <;> simp_all
theorem msO_cut {x y : Int} {f g : Nat → Bool} (hx : msO x f) (hy : ∀ v, v < 5 → tb y (opt v) = g v) : msO (z_and x (z_xor y (-1))) (fun v => f v && !g v) := msO_and hx (fun v hv _ => by
  have ho : opt v < 32 := by unfold opt; split <;> omega
  rw [tb_not _ ho, hy v hv])
theorem msO_c {x : Int} {f g : Nat → Bool} (hx : msO x f) (h : ∀ v, v < 5 → f v = g v) : msO x g := ⟨hx.1, fun v hv => (hx.2 v hv).trans (h v hv)⟩
def tkB (X Y : Nat → Nat → Bool) : Bool := !(allN (fun p => allN (fun v => X p v == Y p v) 5) 8)
theorem tkB_iff {X Y : Nat → Nat → Bool} : tkB X Y = false ↔ eqX X Y := by
  unfold tkB eqX
  rw [Bool.not_eq_false', allN_iff]
  constructor
  · intro h p v hp hv
    have := (allN_iff.mp (h p hp)) v hv
    simpa using this
  · intro h p hp
    exact allN_iff.mpr fun v hv => by simp [h p v hp hv]
set_option maxRecDepth 4000 in
set_option maxHeartbeats 4000000 in
theorem nb60 (l : Launch) (G : zG) (QQ : Option zV → zH → Prop) (h1 : zH) (c t r : Nat) (aZ aT th aC1 wh : Int) (hc8 : c < 8) (ht8 : t < 8) (hr : r < 20) (q0 : (gK h1 93).1 = 8) (q99 : gK h1 99 = (9, 20)) (q100 : gK h1 100 = (9, 20)) (q102 : gK h1 102 = (9, 8)) (s9 : gR h1 93 9 = some 99) (s10 : gR h1 93 10 = some 100) (s12 : gR h1 93 12 = some 102) (hz : gI h1 102 t = aZ) (hth : gI h1 100 r = th) (hac : gI h1 102 c = aC1) (hwn : gI h1 99 r = wh) (hzR : InR aZ) (haR : InR aT) (hcR : InR aC1) (lv : Nat) (hq : QQ (some (vI (if z_and aZ th = 0 then (if aZ = aT ∧ z_and aC1 (z_xor wh (-1)) = aC1 then 0 else 1) else (if aZ = aT then 0 else 1)))) (if z_and aZ th = 0 then sI h1 102 c (z_and aC1 (z_xor wh (-1))) else h1)) : z_X l G mtX8_narrowsBy lv 0 0 (QQ) 0 0 (h1) 60 [vR 93, vI r, vI c, vI t, vI aT, vJ] [] := by
  have mid : ∀ w : Int, (w = 0 ∨ w = 1) → QQ (some (vI (if z_and aZ th = 0 then (if w = 0 ∧ z_and aC1 (z_xor wh (-1)) = aC1 then 0 else 1) else w))) (if z_and aZ th = 0 then sI h1 102 c (z_and aC1 (z_xor wh (-1))) else h1) → z_X l G mtX8_narrowsBy lv 0 0 (QQ) 0 0 (h1) 78 [vR 93, vI r, vI c, vI t, vI aT, vI w] [] := by
    intro w hw hq
    clear hzR haR
    by_cases hzz : z_and aZ th = 0
    · rw [if_pos hzz, if_pos hzz] at hq
      have tail : z_X l G mtX8_narrowsBy lv 0 0 (QQ) 0 0 (sI h1 102 c (z_and aC1 (z_xor wh (-1)))) 124 [vR 93, vI r, vI c, vI t, vI aC1, vI w] [] := by
        rcases hw with rfl | rfl
        · by_cases heq2 : z_and aC1 (z_xor wh (-1)) = aC1
          · rw [if_pos ⟨rfl, heq2⟩] at hq
            rw [heq2] at hq ⊢
            refine z_run1 tsX8_narrowsBy [] 40 ?_
            simp (maxSteps := 1000000) -implicitDefEqProofs +contextual (disch := omega) only [z_wp_t, z_wp_u, ↓pI_e, ↓pL_e, ↓pO_e, ↓pR_e, ↓p1_I, ↓p1_O, z_gl, z_st1, z_st2, z_nl_I, z_nl_O, z_nl_J, z_nl_L, if_true, if_false, ite_true, ite_false, true_and, and_true, List.mem_cons, List.not_mem_nil, or_false, false_or, or_self, List.length_cons, List.length_nil, InR_t, InL_t, z_ix_t, mI_s1, mI_s2, ↓brT, ↓brF, ↓brT', ↓brF', mL_sI, mR_sI, mK_sI, mS_sI, mI_sL, mL_s1, mL_s2, mR_sL, mK_sL, mS_sL, mI_sR, mL_sR, mR_s1, mR_s2, mK_sR, mS_sR, mA_s1, mA_s2, mL_sA, mR_sA, mK_sA, mS_sA, ix_n, ix_a, ix_m, ix_s, z_sw, z_stop, forall_const, true_implies, false_implies, imp_self, implies_true, not_true_eq_false, not_false_eq_true, ne_eq, eq_self, Option.some.injEq, reduceCtorEq, Nat.reduceAdd, Nat.reduceSub, Nat.reduceMul, Nat.reduceEqDiff, Nat.reduceLT, Nat.reduceLeDiff, Int.reduceAdd, Int.reduceMul, Int.reduceSub, Int.reduceNeg, Int.reduceToNat, Int.reduceLT, Int.reduceLE, Int.reduceEq, ↓reduceIte, List.reverse_cons, Option.toList, List.cons_append, List.nil_append, vI_inj, vL_inj, vO_inj, rI, rL, rO, rV, mI_sQ, mL_sQ, mK_sQ, mS_sQ, mQ_s1, mQ_s2, iL_and, iL_or, iL_xor, iL_shl, iL_ushr, iR_and, iR_or, iR_xor, iR_shl, iR_shr, iR_ushr, iR_cmp, yc0, tlX8_narrowsBy, tkX8_narrowsBy, o_aload, o_dup2, o_getR, o_goto, o_iald, o_iand, o_iast, o_ic, o_iceq, o_ifne, o_iload, o_istore, o_ixor, o_zret, q0, q102, s12, hcR]
            try simp +contextual (disch := omega) only [impF, impT, and_true, true_and, implies_true, not_false_eq_true, not_true_eq_false]
            exact hq
          · rw [if_neg (fun q => heq2 q.2)] at hq
            refine z_run1 tsX8_narrowsBy [] 40 ?_
            simp (maxSteps := 1000000) -implicitDefEqProofs +contextual (disch := omega) only [z_wp_t, z_wp_u, ↓pI_e, ↓pL_e, ↓pO_e, ↓pR_e, ↓p1_I, ↓p1_O, z_gl, z_st1, z_st2, z_nl_I, z_nl_O, z_nl_J, z_nl_L, if_true, if_false, ite_true, ite_false, true_and, and_true, List.mem_cons, List.not_mem_nil, or_false, false_or, or_self, List.length_cons, List.length_nil, InR_t, InL_t, z_ix_t, mI_s1, mI_s2, ↓brT, ↓brF, ↓brT', ↓brF', mL_sI, mR_sI, mK_sI, mS_sI, mI_sL, mL_s1, mL_s2, mR_sL, mK_sL, mS_sL, mI_sR, mL_sR, mR_s1, mR_s2, mK_sR, mS_sR, mA_s1, mA_s2, mL_sA, mR_sA, mK_sA, mS_sA, ix_n, ix_a, ix_m, ix_s, z_sw, z_stop, forall_const, true_implies, false_implies, imp_self, implies_true, not_true_eq_false, not_false_eq_true, ne_eq, eq_self, Option.some.injEq, reduceCtorEq, Nat.reduceAdd, Nat.reduceSub, Nat.reduceMul, Nat.reduceEqDiff, Nat.reduceLT, Nat.reduceLeDiff, Int.reduceAdd, Int.reduceMul, Int.reduceSub, Int.reduceNeg, Int.reduceToNat, Int.reduceLT, Int.reduceLE, Int.reduceEq, ↓reduceIte, List.reverse_cons, Option.toList, List.cons_append, List.nil_append, vI_inj, vL_inj, vO_inj, rI, rL, rO, rV, mI_sQ, mL_sQ, mK_sQ, mS_sQ, mQ_s1, mQ_s2, iL_and, iL_or, iL_xor, iL_shl, iL_ushr, iR_and, iR_or, iR_xor, iR_shl, iR_shr, iR_ushr, iR_cmp, yc0, tlX8_narrowsBy, tkX8_narrowsBy, o_aload, o_dup2, o_getR, o_goto, o_iald, o_iand, o_iast, o_ic, o_iceq, o_ifne, o_iload, o_istore, o_ixor, o_zret, q0, q102, s12, heq2, hcR]
            try simp +contextual (disch := omega) only [impF, impT, and_true, true_and, implies_true, not_false_eq_true, not_true_eq_false]
            exact hq
        · rw [if_neg (fun q => absurd q.1 (by decide))] at hq
          refine z_run1 tsX8_narrowsBy [] 40 ?_
          simp (maxSteps := 1000000) -implicitDefEqProofs +contextual (disch := omega) only [z_wp_t, z_wp_u, ↓pI_e, ↓pL_e, ↓pO_e, ↓pR_e, ↓p1_I, ↓p1_O, z_gl, z_st1, z_st2, z_nl_I, z_nl_O, z_nl_J, z_nl_L, if_true, if_false, ite_true, ite_false, true_and, and_true, List.mem_cons, List.not_mem_nil, or_false, false_or, or_self, List.length_cons, List.length_nil, InR_t, InL_t, z_ix_t, mI_s1, mI_s2, ↓brT, ↓brF, ↓brT', ↓brF', mL_sI, mR_sI, mK_sI, mS_sI, mI_sL, mL_s1, mL_s2, mR_sL, mK_sL, mS_sL, mI_sR, mL_sR, mR_s1, mR_s2, mK_sR, mS_sR, mA_s1, mA_s2, mL_sA, mR_sA, mK_sA, mS_sA, ix_n, ix_a, ix_m, ix_s, z_sw, z_stop, forall_const, true_implies, false_implies, imp_self, implies_true, not_true_eq_false, not_false_eq_true, ne_eq, eq_self, Option.some.injEq, reduceCtorEq, Nat.reduceAdd, Nat.reduceSub, Nat.reduceMul, Nat.reduceEqDiff, Nat.reduceLT, Nat.reduceLeDiff, Int.reduceAdd, Int.reduceMul, Int.reduceSub, Int.reduceNeg, Int.reduceToNat, Int.reduceLT, Int.reduceLE, Int.reduceEq, ↓reduceIte, List.reverse_cons, Option.toList, List.cons_append, List.nil_append, vI_inj, vL_inj, vO_inj, rI, rL, rO, rV, mI_sQ, mL_sQ, mK_sQ, mS_sQ, mQ_s1, mQ_s2, iL_and, iL_or, iL_xor, iL_shl, iL_ushr, iR_and, iR_or, iR_xor, iR_shl, iR_shr, iR_ushr, iR_cmp, yc0, tlX8_narrowsBy, tkX8_narrowsBy, o_aload, o_dup2, o_getR, o_goto, o_iald, o_iand, o_iast, o_ic, o_iceq, o_ifne, o_iload, o_istore, o_ixor, o_zret]
          try simp +contextual (disch := omega) only [impF, impT, and_true, true_and, implies_true, not_false_eq_true, not_true_eq_false]
          exact hq
      refine z_run1 tsX8_narrowsBy [124] 60 ?_
      simp (maxSteps := 1000000) -implicitDefEqProofs +contextual (disch := omega) only [z_wp_t, z_wp_u, ↓pI_e, ↓pL_e, ↓pO_e, ↓pR_e, ↓p1_I, ↓p1_O, z_gl, z_st1, z_st2, z_nl_I, z_nl_O, z_nl_J, z_nl_L, if_true, if_false, ite_true, ite_false, true_and, and_true, List.mem_cons, List.not_mem_nil, or_false, false_or, or_self, List.length_cons, List.length_nil, InR_t, InL_t, z_ix_t, mI_s1, mI_s2, ↓brT, ↓brF, ↓brT', ↓brF', mL_sI, mR_sI, mK_sI, mS_sI, mI_sL, mL_s1, mL_s2, mR_sL, mK_sL, mS_sL, mI_sR, mL_sR, mR_s1, mR_s2, mK_sR, mS_sR, mA_s1, mA_s2, mL_sA, mR_sA, mK_sA, mS_sA, ix_n, ix_a, ix_m, ix_s, z_sw, z_stop, forall_const, true_implies, false_implies, imp_self, implies_true, not_true_eq_false, not_false_eq_true, ne_eq, eq_self, Option.some.injEq, reduceCtorEq, Nat.reduceAdd, Nat.reduceSub, Nat.reduceMul, Nat.reduceEqDiff, Nat.reduceLT, Nat.reduceLeDiff, Int.reduceAdd, Int.reduceMul, Int.reduceSub, Int.reduceNeg, Int.reduceToNat, Int.reduceLT, Int.reduceLE, Int.reduceEq, ↓reduceIte, List.reverse_cons, Option.toList, List.cons_append, List.nil_append, vI_inj, vL_inj, vO_inj, rI, rL, rO, rV, mI_sQ, mL_sQ, mK_sQ, mS_sQ, mQ_s1, mQ_s2, iL_and, iL_or, iL_xor, iL_shl, iL_ushr, iR_and, iR_or, iR_xor, iR_shl, iR_shr, iR_ushr, iR_cmp, yc0, tlX8_narrowsBy, tkX8_narrowsBy, o_aload, o_dup2, o_getR, o_goto, o_iald, o_iand, o_iast, o_ic, o_iceq, o_ifne, o_iload, o_istore, o_ixor, o_zret, q0, q99, q100, q102, s9, s10, s12, hz, hzz, hth, hac, hwn]
      try simp +contextual (disch := omega) only [impF, impT, and_true, true_and, implies_true, not_false_eq_true, not_true_eq_false]
      exact tail
    · rw [if_neg hzz, if_neg hzz] at hq
      refine z_run1 tsX8_narrowsBy [] 60 ?_
      simp (maxSteps := 1000000) -implicitDefEqProofs +contextual (disch := omega) only [z_wp_t, z_wp_u, ↓pI_e, ↓pL_e, ↓pO_e, ↓pR_e, ↓p1_I, ↓p1_O, z_gl, z_st1, z_st2, z_nl_I, z_nl_O, z_nl_J, z_nl_L, if_true, if_false, ite_true, ite_false, true_and, and_true, List.mem_cons, List.not_mem_nil, or_false, false_or, or_self, List.length_cons, List.length_nil, InR_t, InL_t, z_ix_t, mI_s1, mI_s2, ↓brT, ↓brF, ↓brT', ↓brF', mL_sI, mR_sI, mK_sI, mS_sI, mI_sL, mL_s1, mL_s2, mR_sL, mK_sL, mS_sL, mI_sR, mL_sR, mR_s1, mR_s2, mK_sR, mS_sR, mA_s1, mA_s2, mL_sA, mR_sA, mK_sA, mS_sA, ix_n, ix_a, ix_m, ix_s, z_sw, z_stop, forall_const, true_implies, false_implies, imp_self, implies_true, not_true_eq_false, not_false_eq_true, ne_eq, eq_self, Option.some.injEq, reduceCtorEq, Nat.reduceAdd, Nat.reduceSub, Nat.reduceMul, Nat.reduceEqDiff, Nat.reduceLT, Nat.reduceLeDiff, Int.reduceAdd, Int.reduceMul, Int.reduceSub, Int.reduceNeg, Int.reduceToNat, Int.reduceLT, Int.reduceLE, Int.reduceEq, ↓reduceIte, List.reverse_cons, Option.toList, List.cons_append, List.nil_append, vI_inj, vL_inj, vO_inj, rI, rL, rO, rV, mI_sQ, mL_sQ, mK_sQ, mS_sQ, mQ_s1, mQ_s2, iL_and, iL_or, iL_xor, iL_shl, iL_ushr, iR_and, iR_or, iR_xor, iR_shl, iR_shr, iR_ushr, iR_cmp, yc0, tlX8_narrowsBy, tkX8_narrowsBy, o_aload, o_dup2, o_getR, o_goto, o_iald, o_iand, o_iast, o_ic, o_iceq, o_ifne, o_iload, o_istore, o_ixor, o_zret, q0, q100, q102, s10, s12, hz, hzz, hth]
      try simp +contextual (disch := omega) only [impF, impT, and_true, true_and, implies_true, not_false_eq_true, not_true_eq_false]
      exact ⟨hw, hq⟩
  by_cases heq : aZ = aT
  · have hm := mid 0 (Or.inl rfl) (by simpa [heq] using hq)
    rw [heq] at hz
    refine z_run1 tsX8_narrowsBy [78] 40 ?_
    simp (maxSteps := 1000000) -implicitDefEqProofs +contextual (disch := omega) only [z_wp_t, z_wp_u, ↓pI_e, ↓pL_e, ↓pO_e, ↓pR_e, ↓p1_I, ↓p1_O, z_gl, z_st1, z_st2, z_nl_I, z_nl_O, z_nl_J, z_nl_L, if_true, if_false, ite_true, ite_false, true_and, and_true, List.mem_cons, List.not_mem_nil, or_false, false_or, or_self, List.length_cons, List.length_nil, InR_t, InL_t, z_ix_t, mI_s1, mI_s2, ↓brT, ↓brF, ↓brT', ↓brF', mL_sI, mR_sI, mK_sI, mS_sI, mI_sL, mL_s1, mL_s2, mR_sL, mK_sL, mS_sL, mI_sR, mL_sR, mR_s1, mR_s2, mK_sR, mS_sR, mA_s1, mA_s2, mL_sA, mR_sA, mK_sA, mS_sA, ix_n, ix_a, ix_m, ix_s, z_sw, z_stop, forall_const, true_implies, false_implies, imp_self, implies_true, not_true_eq_false, not_false_eq_true, ne_eq, eq_self, Option.some.injEq, reduceCtorEq, Nat.reduceAdd, Nat.reduceSub, Nat.reduceMul, Nat.reduceEqDiff, Nat.reduceLT, Nat.reduceLeDiff, Int.reduceAdd, Int.reduceMul, Int.reduceSub, Int.reduceNeg, Int.reduceToNat, Int.reduceLT, Int.reduceLE, Int.reduceEq, ↓reduceIte, List.reverse_cons, Option.toList, List.cons_append, List.nil_append, vI_inj, vL_inj, vO_inj, rI, rL, rO, rV, mI_sQ, mL_sQ, mK_sQ, mS_sQ, mQ_s1, mQ_s2, iL_and, iL_or, iL_xor, iL_shl, iL_ushr, iR_and, iR_or, iR_xor, iR_shl, iR_shr, iR_ushr, iR_cmp, yc0, tlX8_narrowsBy, tkX8_narrowsBy, o_aload, o_dup2, o_getR, o_goto, o_iald, o_iand, o_iast, o_ic, o_iceq, o_ifne, o_iload, o_istore, o_ixor, o_zret, q0, q102, s12, hz, haR]
    try simp +contextual (disch := omega) only [impF, impT, and_true, true_and, implies_true, not_false_eq_true, not_true_eq_false]
    exact hm
  · have hm := mid 1 (Or.inr rfl) (by simpa [heq] using hq)
    refine z_run1 tsX8_narrowsBy [78] 40 ?_
    simp (maxSteps := 1000000) -implicitDefEqProofs +contextual (disch := omega) only [z_wp_t, z_wp_u, ↓pI_e, ↓pL_e, ↓pO_e, ↓pR_e, ↓p1_I, ↓p1_O, z_gl, z_st1, z_st2, z_nl_I, z_nl_O, z_nl_J, z_nl_L, if_true, if_false, ite_true, ite_false, true_and, and_true, List.mem_cons, List.not_mem_nil, or_false, false_or, or_self, List.length_cons, List.length_nil, InR_t, InL_t, z_ix_t, mI_s1, mI_s2, ↓brT, ↓brF, ↓brT', ↓brF', mL_sI, mR_sI, mK_sI, mS_sI, mI_sL, mL_s1, mL_s2, mR_sL, mK_sL, mS_sL, mI_sR, mL_sR, mR_s1, mR_s2, mK_sR, mS_sR, mA_s1, mA_s2, mL_sA, mR_sA, mK_sA, mS_sA, ix_n, ix_a, ix_m, ix_s, z_sw, z_stop, forall_const, true_implies, false_implies, imp_self, implies_true, not_true_eq_false, not_false_eq_true, ne_eq, eq_self, Option.some.injEq, reduceCtorEq, Nat.reduceAdd, Nat.reduceSub, Nat.reduceMul, Nat.reduceEqDiff, Nat.reduceLT, Nat.reduceLeDiff, Int.reduceAdd, Int.reduceMul, Int.reduceSub, Int.reduceNeg, Int.reduceToNat, Int.reduceLT, Int.reduceLE, Int.reduceEq, ↓reduceIte, List.reverse_cons, Option.toList, List.cons_append, List.nil_append, vI_inj, vL_inj, vO_inj, rI, rL, rO, rV, mI_sQ, mL_sQ, mK_sQ, mS_sQ, mQ_s1, mQ_s2, iL_and, iL_or, iL_xor, iL_shl, iL_ushr, iR_and, iR_or, iR_xor, iR_shl, iR_shr, iR_ushr, iR_cmp, yc0, tlX8_narrowsBy, tkX8_narrowsBy, o_aload, o_dup2, o_getR, o_goto, o_iald, o_iand, o_iast, o_ic, o_iceq, o_ifne, o_iload, o_istore, o_ixor, o_zret, q0, q102, s12, hz, heq, haR, hzR]
    try simp +contextual (disch := omega) only [impF, impT, and_true, true_and, implies_true, not_false_eq_true, not_true_eq_false]
    exact hm
set_option maxRecDepth 4000 in
set_option maxHeartbeats 4000000 in
theorem nb60n (l : Launch) (G : zG) (QQ : Option zV → zH → Prop) (h1 : zH) (t r : Nat) (aZ aT : Int) (ht8 : t < 8) (hr : r < 20) (q0 : (gK h1 93).1 = 8) (q102 : gK h1 102 = (9, 8)) (s12 : gR h1 93 12 = some 102) (hz : gI h1 102 t = aZ) (hzR : InR aZ) (haR : InR aT) (lv : Nat) (hq : QQ (some (vI (if aZ = aT then 0 else 1))) h1) : z_X l G mtX8_narrowsBy lv 0 0 (QQ) 0 0 (h1) 60 [vR 93, vI r, vI (-1), vI t, vI aT, vJ] [] := by
  by_cases heq : aZ = aT
  · rw [if_pos heq] at hq
    rw [heq] at hz
    refine z_run1 tsX8_narrowsBy [] 40 ?_
    simp (maxSteps := 1000000) -implicitDefEqProofs +contextual (disch := omega) only [z_wp_t, z_wp_u, ↓pI_e, ↓pL_e, ↓pO_e, ↓pR_e, ↓p1_I, ↓p1_O, z_gl, z_st1, z_st2, z_nl_I, z_nl_O, z_nl_J, z_nl_L, if_true, if_false, ite_true, ite_false, true_and, and_true, List.mem_cons, List.not_mem_nil, or_false, false_or, or_self, List.length_cons, List.length_nil, InR_t, InL_t, z_ix_t, mI_s1, mI_s2, ↓brT, ↓brF, ↓brT', ↓brF', mL_sI, mR_sI, mK_sI, mS_sI, mI_sL, mL_s1, mL_s2, mR_sL, mK_sL, mS_sL, mI_sR, mL_sR, mR_s1, mR_s2, mK_sR, mS_sR, mA_s1, mA_s2, mL_sA, mR_sA, mK_sA, mS_sA, ix_n, ix_a, ix_m, ix_s, z_sw, z_stop, forall_const, true_implies, false_implies, imp_self, implies_true, not_true_eq_false, not_false_eq_true, ne_eq, eq_self, Option.some.injEq, reduceCtorEq, Nat.reduceAdd, Nat.reduceSub, Nat.reduceMul, Nat.reduceEqDiff, Nat.reduceLT, Nat.reduceLeDiff, Int.reduceAdd, Int.reduceMul, Int.reduceSub, Int.reduceNeg, Int.reduceToNat, Int.reduceLT, Int.reduceLE, Int.reduceEq, ↓reduceIte, List.reverse_cons, Option.toList, List.cons_append, List.nil_append, vI_inj, vL_inj, vO_inj, rI, rL, rO, rV, mI_sQ, mL_sQ, mK_sQ, mS_sQ, mQ_s1, mQ_s2, iL_and, iL_or, iL_xor, iL_shl, iL_ushr, iR_and, iR_or, iR_xor, iR_shl, iR_shr, iR_ushr, iR_cmp, yc0, tlX8_narrowsBy, tkX8_narrowsBy, o_aload, o_dup2, o_getR, o_goto, o_iald, o_iand, o_iast, o_ic, o_iceq, o_ifne, o_iload, o_istore, o_ixor, o_zret, q0, q102, s12, hz, haR]
    try simp +contextual (disch := omega) only [impF, impT, and_true, true_and, implies_true, not_false_eq_true, not_true_eq_false]
    exact hq
  · rw [if_neg heq] at hq
    refine z_run1 tsX8_narrowsBy [] 40 ?_
    simp (maxSteps := 1000000) -implicitDefEqProofs +contextual (disch := omega) only [z_wp_t, z_wp_u, ↓pI_e, ↓pL_e, ↓pO_e, ↓pR_e, ↓p1_I, ↓p1_O, z_gl, z_st1, z_st2, z_nl_I, z_nl_O, z_nl_J, z_nl_L, if_true, if_false, ite_true, ite_false, true_and, and_true, List.mem_cons, List.not_mem_nil, or_false, false_or, or_self, List.length_cons, List.length_nil, InR_t, InL_t, z_ix_t, mI_s1, mI_s2, ↓brT, ↓brF, ↓brT', ↓brF', mL_sI, mR_sI, mK_sI, mS_sI, mI_sL, mL_s1, mL_s2, mR_sL, mK_sL, mS_sL, mI_sR, mL_sR, mR_s1, mR_s2, mK_sR, mS_sR, mA_s1, mA_s2, mL_sA, mR_sA, mK_sA, mS_sA, ix_n, ix_a, ix_m, ix_s, z_sw, z_stop, forall_const, true_implies, false_implies, imp_self, implies_true, not_true_eq_false, not_false_eq_true, ne_eq, eq_self, Option.some.injEq, reduceCtorEq, Nat.reduceAdd, Nat.reduceSub, Nat.reduceMul, Nat.reduceEqDiff, Nat.reduceLT, Nat.reduceLeDiff, Int.reduceAdd, Int.reduceMul, Int.reduceSub, Int.reduceNeg, Int.reduceToNat, Int.reduceLT, Int.reduceLE, Int.reduceEq, ↓reduceIte, List.reverse_cons, Option.toList, List.cons_append, List.nil_append, vI_inj, vL_inj, vO_inj, rI, rL, rO, rV, mI_sQ, mL_sQ, mK_sQ, mS_sQ, mQ_s1, mQ_s2, iL_and, iL_or, iL_xor, iL_shl, iL_ushr, iR_and, iR_or, iR_xor, iR_shl, iR_shr, iR_ushr, iR_cmp, yc0, tlX8_narrowsBy, tkX8_narrowsBy, o_aload, o_dup2, o_getR, o_goto, o_iald, o_iand, o_iast, o_ic, o_iceq, o_ifne, o_iload, o_istore, o_ixor, o_zret, q0, q102, s12, hz, heq, haR, hzR]
    try simp +contextual (disch := omega) only [impF, impT, and_true, true_and, implies_true, not_false_eq_true, not_true_eq_false]
    exact hq
set_option maxRecDepth 4000 in
set_option maxHeartbeats 4000000 in
theorem sm_narrowsBy (l : Launch) (G : zG) (h : zH) (r : Nat) (A : zA) (S : Nat → Bool) (X : Nat → Nat → Bool) (hS : ShM h) (hm : MA (gI h 94) A) (hA : AOK A) (hr : r < aC A) (hP : PrOK h A S X) (hX : ∀ p v, p < 8 → v < 5 → X p v = true → v ≤ aN A p) (lv : Nat) (hlv : 2 ≤ lv) : z_Sp l G mtX8_narrowsBy lv 0 0 [vR 93, vI r] (h) (fun x h' => x = some (vI (b01 (tkB (narR A r X) X))) ∧ Fr (fun c => c = 102) h h' ∧ gR h' = gR h ∧ PrOK h' A S (narR A r X)) := by
  have h20 := hA.2.2.2.2.1
  have k0 := hS.1
  have k99 := hS.2.1.2.2.2.2.2.1
  have k100 := hS.2.1.2.2.2.2.2.2.1
  have k102 := hS.2.2.1.1
  have r9 := hS.2.2.2.1.2.2.2.2.2.1
  have r10 := hS.2.2.2.1.2.2.2.2.2.2.1
  have r12 := hS.2.2.2.2.1
  obtain ⟨u0, u1, u2, -⟩ := hm.2.2.2.2.2 r hr
  have hra := hA.2.2.2.2.2.2 r hr
  obtain ⟨hT8, hC8⟩ := hra.lt
  unfold RuA at hra
  obtain ⟨p1, p2, p3⟩ := hP.1 r hr
  have of1 := sm_of' l G h r 1 (rC (aR A r)) hS (by omega) (by omega) u1 1 (by omega)
  have of2 := sm_of' l G h r 2 (rT (aR A r)) hS (by omega) (by omega) u2 1 (by omega)
  rw [show ((1 : Nat) : Int) = 1 from rfl] at of1
  rw [show ((2 : Nat) : Int) = 2 from rfl] at of2
  have eT : rT (aR A r) = ((rTn A r : Nat) : Int) := by unfold rTn; omega
  rw [eT] at of2
  generalize htt : rTn A r = t at *
  have mT := hP.2 t hT8
  generalize hat : gI h 102 t = aT at mT
  generalize hth : gI h 100 r = th at p3
  have haR := msO_R mT
  -- behind the first step
  have m1 : msO (z_and aT th) (fun v => X t v && hB A r v) := msO_and mT (fun v hv hx => p3 v hv (hX t v hT8 hv hx))
  refine x_enter [vR 93, vI r, vJ, vJ, vJ, vJ] (by decide +kernel) (by omega) rfl (Nat.le_of_ble_eq_true rfl) ?_
  generalize hQ : (fun (x : Option zV) (h' : zH) => x = some (vI (b01 (tkB (narR A r X) X))) ∧ Fr (fun c => c = 102) h h' ∧ gR h' = gR h ∧ PrOK h' A S (narR A r X)) = QQ
  have fin : ∀ (h2 : zH) (Y : Nat → Nat → Bool) (w : Int), Fr (fun c => c = 102) h h2 → gR h2 = gR h → (∀ p, p < 8 → msO (gI h2 102 p) (Y p)) → eqX Y (narR A r X) → w = b01 (tkB Y X) → QQ (some (vI w)) h2 := fun h2 Y w f2 hR2 hY he hw => by
    rw [← hQ]
    refine ⟨?_, f2, hR2, fun x hx => ?_, fun p hp => msO_c (hY p hp) (fun v hv => he p v hp hv)⟩
    · rw [hw]
      have : tkB Y X = tkB (narR A r X) X := by
        cases h1 : tkB (narR A r X) X
        · exact tkB_iff.mpr (he.tr (tkB_iff.mp h1))
        · cases h2 : tkB Y X
          · rw [tkB_iff.mpr (he.sym.tr (tkB_iff.mp h2))] at h1; cases h1
          · rfl
      rw [this]
    · unfold PrR
      rw [f2.I (by omega), f2.I (by omega), f2.I (by omega)]
      exact hP.1 x hx
  refine z_run1 tsX8_narrowsBy [] 20 ?_
  simp (maxSteps := 1000000) -implicitDefEqProofs +contextual (disch := omega) only [z_wp_t, z_wp_u, ↓pI_e, ↓pL_e, ↓pO_e, ↓pR_e, ↓p1_I, ↓p1_O, z_gl, z_st1, z_st2, z_nl_I, z_nl_O, z_nl_J, z_nl_L, if_true, if_false, ite_true, ite_false, true_and, and_true, List.mem_cons, List.not_mem_nil, or_false, false_or, or_self, List.length_cons, List.length_nil, InR_t, InL_t, z_ix_t, mI_s1, mI_s2, ↓brT, ↓brF, ↓brT', ↓brF', mL_sI, mR_sI, mK_sI, mS_sI, mI_sL, mL_s1, mL_s2, mR_sL, mK_sL, mS_sL, mI_sR, mL_sR, mR_s1, mR_s2, mK_sR, mS_sR, mA_s1, mA_s2, mL_sA, mR_sA, mK_sA, mS_sA, ix_n, ix_a, ix_m, ix_s, z_sw, z_stop, forall_const, true_implies, false_implies, imp_self, implies_true, not_true_eq_false, not_false_eq_true, ne_eq, eq_self, Option.some.injEq, reduceCtorEq, Nat.reduceAdd, Nat.reduceSub, Nat.reduceMul, Nat.reduceEqDiff, Nat.reduceLT, Nat.reduceLeDiff, Int.reduceAdd, Int.reduceMul, Int.reduceSub, Int.reduceNeg, Int.reduceToNat, Int.reduceLT, Int.reduceLE, Int.reduceEq, ↓reduceIte, List.reverse_cons, Option.toList, List.cons_append, List.nil_append, vI_inj, vL_inj, vO_inj, rI, rL, rO, rV, mI_sQ, mL_sQ, mK_sQ, mS_sQ, mQ_s1, mQ_s2, iL_and, iL_or, iL_xor, iL_shl, iL_ushr, iR_and, iR_or, iR_xor, iR_shl, iR_shr, iR_ushr, iR_cmp, yc0, tlX8_narrowsBy, tkX8_narrowsBy, o_aload, o_dup2, o_getR, o_goto, o_iald, o_iand, o_iast, o_ic, o_iceq, o_ifne, o_iload, o_istore, o_ixor, o_zret]
  try simp +contextual (disch := omega) only [impF, impT, and_true, true_and, implies_true, not_false_eq_true, not_true_eq_false]
  refine x_callV (by decide +kernel) cv_X8_138 (of1) k0 (by omega) rfl (by omega) (by omega) rfl (Nat.le_of_ble_eq_true rfl) ?_
  rintro r' h' ⟨rfl, hE⟩
  subst h'
  refine z_run1 tsX8_narrowsBy [] 20 ?_
  simp (maxSteps := 1000000) -implicitDefEqProofs +contextual (disch := omega) only [z_wp_t, z_wp_u, ↓pI_e, ↓pL_e, ↓pO_e, ↓pR_e, ↓p1_I, ↓p1_O, z_gl, z_st1, z_st2, z_nl_I, z_nl_O, z_nl_J, z_nl_L, if_true, if_false, ite_true, ite_false, true_and, and_true, List.mem_cons, List.not_mem_nil, or_false, false_or, or_self, List.length_cons, List.length_nil, InR_t, InL_t, z_ix_t, mI_s1, mI_s2, ↓brT, ↓brF, ↓brT', ↓brF', mL_sI, mR_sI, mK_sI, mS_sI, mI_sL, mL_s1, mL_s2, mR_sL, mK_sL, mS_sL, mI_sR, mL_sR, mR_s1, mR_s2, mK_sR, mS_sR, mA_s1, mA_s2, mL_sA, mR_sA, mK_sA, mS_sA, ix_n, ix_a, ix_m, ix_s, z_sw, z_stop, forall_const, true_implies, false_implies, imp_self, implies_true, not_true_eq_false, not_false_eq_true, ne_eq, eq_self, Option.some.injEq, reduceCtorEq, Nat.reduceAdd, Nat.reduceSub, Nat.reduceMul, Nat.reduceEqDiff, Nat.reduceLT, Nat.reduceLeDiff, Int.reduceAdd, Int.reduceMul, Int.reduceSub, Int.reduceNeg, Int.reduceToNat, Int.reduceLT, Int.reduceLE, Int.reduceEq, ↓reduceIte, List.reverse_cons, Option.toList, List.cons_append, List.nil_append, vI_inj, vL_inj, vO_inj, rI, rL, rO, rV, mI_sQ, mL_sQ, mK_sQ, mS_sQ, mQ_s1, mQ_s2, iL_and, iL_or, iL_xor, iL_shl, iL_ushr, iR_and, iR_or, iR_xor, iR_shl, iR_shr, iR_ushr, iR_cmp, yc0, tlX8_narrowsBy, tkX8_narrowsBy, o_aload, o_dup2, o_getR, o_goto, o_iald, o_iand, o_iast, o_ic, o_iceq, o_ifne, o_iload, o_istore, o_ixor, o_zret]
  try simp +contextual (disch := omega) only [impF, impT, and_true, true_and, implies_true, not_false_eq_true, not_true_eq_false]
  refine x_callV (by decide +kernel) cv_X8_138 (of2) k0 (by omega) rfl (by omega) (by omega) rfl (Nat.le_of_ble_eq_true rfl) ?_
  rintro r' h' ⟨rfl, hE⟩
  subst h'
  -- from 60 on: allowed[t] holds Z
  have part2 : ∀ (h1 : zH) (aZ : Int) (Z : Nat → Bool), Fr (fun c => c = 102) h h1 → gR h1 = gR h → gI h1 102 t = aZ → (∀ q, q ≠ t → gI h1 102 q = gI h 102 q) → msO aZ Z → (∀ p v, p < 8 → v < 5 → nr1 A r X p v = if p = t then Z v else X p v) → z_X l G mtX8_narrowsBy lv 0 0 (QQ) 0 0 (h1) 60 [vR 93, vI r, vI (rC (aR A r)), vI (t : Int), vI aT, vJ] [] := by
    intro h1 aZ Z f1 hR1 hz hq1 mZ hn1
    have hzR := msO_R mZ
    have q0 : (gK h1 93).1 = 8 := by rw [f1.K]; exact k0
    have q99 : gK h1 99 = (9, 20) := by rw [f1.K]; exact k99
    have q100 : gK h1 100 = (9, 20) := by rw [f1.K]; exact k100
    have q102 : gK h1 102 = (9, 8) := by rw [f1.K]; exact k102
    have s9 : gR h1 93 9 = some 99 := by rw [hR1]; exact r9
    have s10 : gR h1 93 10 = some 100 := by rw [hR1]; exact r10
    have s12 : gR h1 93 12 = some 102 := by rw [hR1]; exact r12
    have hth1 : gI h1 100 r = th := by rw [f1.I (by omega)]; exact hth
    have mY : ∀ p, p < 8 → msO (gI h1 102 p) (nr1 A r X p) := fun p hp => by
      by_cases e : p = t
      · rw [e, hz]; exact msO_c mZ (fun v hv => by rw [hn1 t v hT8 hv, if_pos rfl])
      · rw [hq1 p e]; exact msO_c (hP.2 p hp) (fun v hv => by rw [hn1 p v hp hv, if_neg e])
    have hteq := msO_eq mZ mT
    have tk1 : tkB (nr1 A r X) X = false ↔ aZ = aT := by
      rw [tkB_iff, hteq]
      constructor
      · intro h v hv; have := h t v hT8 hv; rw [hn1 t v hT8 hv, if_pos rfl] at this; exact this
      · intro h p v hp hv
        rw [hn1 p v hp hv]
        by_cases e : p = t
        · rw [if_pos e, e]; exact h v hv
        · rw [if_neg e]
    have hZX : ∀ v, v < 5 → Z v = true → v ≤ aN A t := fun v hv hz2 => by
      refine hX t v hT8 hv ?_
      have h1 : nr1 A r X t v = true := by rw [hn1 t v hT8 hv, if_pos rfl]; exact hz2
      unfold nr1 at h1
      rw [Bool.and_eq_true] at h1
      exact h1.1
    have mz2 := msO_all mZ (fun v hv hx => p3 v hv (hZX v hv hx))
    have end1 : ∀ (w : Int), w = b01 (tkB (nr1 A r X) X) → eqX (nr1 A r X) (narR A r X) → QQ (some (vI w)) h1 := fun w hw he => fin h1 (nr1 A r X) w f1 hR1 mY he hw
    by_cases hc : rC (aR A r) = -1
    · have he : eqX (nr1 A r X) (narR A r X) := fun p v _ _ => by unfold narR nr2; simp [hc]
      rw [hc]
      refine nb60n l G QQ h1 t r aZ aT hT8 (by omega) q0 q102 s12 hz hzR haR lv ?_
      by_cases heq : aZ = aT
      · rw [if_pos heq]; exact end1 0 (by rw [tk1.mpr heq]; rfl) he
      · rw [if_neg heq]
        exact end1 1 (by
          cases h1 : tkB (nr1 A r X) X
          · exact absurd (tk1.mp h1) heq
          · rfl) he
    · have eC : rC (aR A r) = ((rCn A r : Nat) : Int) := by unfold rCn; omega
      generalize hcc : rCn A r = c at *
      by_cases hzz : z_and aZ th = 0
      · have hall := mz2.mp hzz
        have mC := mY c hC8
        generalize hac : gI h1 102 c = aC1 at mC
        have mC2 := msO_cut mC (p2 (by omega))
        have hwn : gI h1 99 r = gI h 99 r := by rw [f1.I (by omega)]
        generalize hwh : gI h 99 r = wh at mC2 hwn
        have hcR := msO_R mC
        have hc2R := msO_R mC2
        have f2 : Fr (fun c => c = 102) h1 (sI h1 102 c (z_and aC1 (z_xor wh (-1)))) := Fr_I1 _ _ _ _
        have hnar : ∀ p v, p < 8 → v < 5 → narR A r X p v = if p = c then (nr1 A r X c v && !cB A r v) else nr1 A r X p v := fun p v hp hv => by
          show nr2 A r (nr1 A r X) p v = _
          unfold nr2
          have : allN (fun v => !nr1 A r X (rTn A r) v || !hB A r v) 5 = true := by
            rw [htt, ← hall]
            exact allN_congr fun i hi => by rw [hn1 t i hT8 hi, if_pos rfl]
          rw [this, hcc]
          by_cases e : p = c
          · rw [if_pos e, e]; simp [hc]
          · rw [if_neg e]; simp [e]
        have mY2 : ∀ p, p < 8 → msO (gI (sI h1 102 c (z_and aC1 (z_xor wh (-1)))) 102 p) (narR A r X p) := fun p hp => by
          by_cases e : p = c
          · rw [e, mI_s1]; exact msO_c mC2 (fun v hv => by rw [hnar c v hC8 hv, if_pos rfl])
          · rw [mI_s2 _ _ (Or.inr e)]; exact msO_c (mY p hp) (fun v hv => by rw [hnar p v hp hv, if_neg e])
        have hceq := msO_eq mC2 mC
        have tk2 : tkB (narR A r X) X = false ↔ (aZ = aT ∧ z_and aC1 (z_xor wh (-1)) = aC1) := by
          rw [tkB_iff, ← tk1, tkB_iff, hceq]
          constructor
          · intro h
            have hsub : ∀ p v, p < 8 → v < 5 → nr1 A r X p v = X p v := fun p v hp hv => by
              cases hx : X p v
              · unfold nr1; rw [hx]; rfl
              · have := h p v hp hv
                rw [hx, hnar p v hp hv] at this
                by_cases e : p = c
                · rw [if_pos e] at this
                  simp at this
                  rw [e]
                  exact this.1
                · rw [if_neg e] at this
                  exact this
            refine ⟨hsub, fun v hv => ?_⟩
            have := h c v hC8 hv
            rw [hnar c v hC8 hv, if_pos rfl] at this
            rw [this, hsub c v hC8 hv]
          · rintro ⟨h1, h2⟩ p v hp hv
            rw [hnar p v hp hv]
            by_cases e : p = c
            · rw [if_pos e, h2 v hv, e]; exact h1 c v hC8 hv
            · rw [if_neg e]; exact h1 p v hp hv
        have end2 : ∀ (w : Int), w = b01 (tkB (narR A r X) X) → QQ (some (vI w)) (sI h1 102 c (z_and aC1 (z_xor wh (-1)))) := fun w hw => fin _ (narR A r X) w (f1.tr' f2 (fun _ q => q) (fun _ q => q)) (by rw [mR_sI]; exact hR1) mY2 (fun _ _ _ _ => rfl) hw
        rw [eC]
        refine nb60 l G QQ h1 c t r aZ aT th aC1 wh hC8 hT8 (by omega) q0 q99 q100 q102 s9 s10 s12 hz hth1 hac hwn hzR haR hcR lv ?_
        rw [if_pos hzz, if_pos hzz]
        by_cases heq : aZ = aT ∧ z_and aC1 (z_xor wh (-1)) = aC1
        · rw [if_pos heq]; exact end2 0 (by rw [tk2.mpr heq]; rfl)
        · rw [if_neg heq]
          exact end2 1 (by
            cases h1 : tkB (narR A r X) X
            · exact absurd (tk2.mp h1) heq
            · rfl)
      · have he : eqX (nr1 A r X) (narR A r X) := fun p v hp hv => by
          show _ = nr2 A r (nr1 A r X) p v
          unfold nr2
          have : allN (fun v => !nr1 A r X (rTn A r) v || !hB A r v) 5 = false := by
            cases hq : allN (fun v => !nr1 A r X (rTn A r) v || !hB A r v) 5
            · rfl
            · refine absurd (mz2.mpr ?_) hzz
              rw [← hq, htt]
              exact allN_congr fun i hi => by rw [hn1 t i hT8 hi, if_pos rfl]
          rw [this]
          simp
        rw [eC]
        have mC := mY c hC8
        refine nb60 l G QQ h1 c t r aZ aT th _ _ hC8 hT8 (by omega) q0 q99 q100 q102 s9 s10 s12 hz hth1 rfl rfl hzR haR (msO_R mC) lv ?_
        rw [if_neg hzz, if_neg hzz]
        by_cases heq : aZ = aT
        · rw [if_pos heq]; exact end1 0 (by rw [tk1.mpr heq]; rfl) he
        · rw [if_neg heq]
          exact end1 1 (by
            cases h1 : tkB (nr1 A r X) X
            · exact absurd (tk1.mp h1) heq
            · rfl) he
  have f1 : Fr (fun c => c = 102) h (sI h 102 t (z_and aT th)) := Fr_I1 _ _ _ _
  have taken : (decide (rC (aR A r) = -1) || allN (fun v => !X (rCn A r) v || cB A r v) 5) = true → z_X l G mtX8_narrowsBy lv 0 0 QQ 0 0 (sI h 102 t (z_and aT th)) 60 [vR 93, vI r, vI (rC (aR A r)), vI (t : Int), vI aT, vJ] [] := fun hcond => part2 (sI h 102 t (z_and aT th)) (z_and aT th) _ f1 rfl (mI_s1 _ _ _ _) (fun q hq => mI_s2 _ _ (Or.inr hq)) m1 (fun p v hp hv => by
    unfold nr1
    rw [hcond, htt]
    by_cases e : p = t
    · rw [if_pos e, e]; simp
    · rw [if_neg e]; simp [e])
  have ntaken : (decide (rC (aR A r) = -1) || allN (fun v => !X (rCn A r) v || cB A r v) 5) = false → z_X l G mtX8_narrowsBy lv 0 0 QQ 0 0 h 60 [vR 93, vI r, vI (rC (aR A r)), vI (t : Int), vI aT, vJ] [] := fun hcond => part2 h aT (X t) Fr.rf rfl hat (fun q hq => rfl) mT (fun p v hp hv => by
    unfold nr1
    rw [hcond]
    by_cases e : p = t
    · rw [if_pos e, e]; simp
    · rw [if_neg e]; simp)
  by_cases hc : rC (aR A r) = -1
  · have ht := taken (by simp [hc])
    rw [hc] at ht ⊢
    refine z_run1 tsX8_narrowsBy [60] 40 ?_
    simp (maxSteps := 1000000) -implicitDefEqProofs +contextual (disch := omega) only [z_wp_t, z_wp_u, ↓pI_e, ↓pL_e, ↓pO_e, ↓pR_e, ↓p1_I, ↓p1_O, z_gl, z_st1, z_st2, z_nl_I, z_nl_O, z_nl_J, z_nl_L, if_true, if_false, ite_true, ite_false, true_and, and_true, List.mem_cons, List.not_mem_nil, or_false, false_or, or_self, List.length_cons, List.length_nil, InR_t, InL_t, z_ix_t, mI_s1, mI_s2, ↓brT, ↓brF, ↓brT', ↓brF', mL_sI, mR_sI, mK_sI, mS_sI, mI_sL, mL_s1, mL_s2, mR_sL, mK_sL, mS_sL, mI_sR, mL_sR, mR_s1, mR_s2, mK_sR, mS_sR, mA_s1, mA_s2, mL_sA, mR_sA, mK_sA, mS_sA, ix_n, ix_a, ix_m, ix_s, z_sw, z_stop, forall_const, true_implies, false_implies, imp_self, implies_true, not_true_eq_false, not_false_eq_true, ne_eq, eq_self, Option.some.injEq, reduceCtorEq, Nat.reduceAdd, Nat.reduceSub, Nat.reduceMul, Nat.reduceEqDiff, Nat.reduceLT, Nat.reduceLeDiff, Int.reduceAdd, Int.reduceMul, Int.reduceSub, Int.reduceNeg, Int.reduceToNat, Int.reduceLT, Int.reduceLE, Int.reduceEq, ↓reduceIte, List.reverse_cons, Option.toList, List.cons_append, List.nil_append, vI_inj, vL_inj, vO_inj, rI, rL, rO, rV, mI_sQ, mL_sQ, mK_sQ, mS_sQ, mQ_s1, mQ_s2, iL_and, iL_or, iL_xor, iL_shl, iL_ushr, iR_and, iR_or, iR_xor, iR_shl, iR_shr, iR_ushr, iR_cmp, yc0, tlX8_narrowsBy, tkX8_narrowsBy, o_aload, o_dup2, o_getR, o_goto, o_iald, o_iand, o_iast, o_ic, o_iceq, o_ifne, o_iload, o_istore, o_ixor, o_zret, k0, k100, k102, r10, r12, hat, hth]
    try simp +contextual (disch := omega) only [impF, impT, and_true, true_and, implies_true, not_false_eq_true, not_true_eq_false]
    exact ht
  · have eC : rC (aR A r) = ((rCn A r : Nat) : Int) := by unfold rCn; omega
    have mC := hP.2 (rCn A r) hC8
    have hcb : ∀ v, v < 5 → X (rCn A r) v = true → tb (z_xor (gI h 99 r) (-1)) (opt v) = !cB A r v := fun v hv _ => by
      have ho : opt v < 32 := by unfold opt; split <;> omega
      rw [tb_not _ ho, p2 (by omega) v hv]
    have hall := msO_all mC hcb
    simp only [Bool.not_not] at hall
    generalize hac : gI h 102 (rCn A r) = aC1 at mC hall
    generalize hwh : gI h 99 r = wh at hall
    rw [show decide (rC (aR A r) = -1) = false by simp [hc], Bool.false_or] at taken ntaken
    rw [eC] at taken ntaken ⊢
    by_cases hz : z_and aC1 (z_xor wh (-1)) = 0
    · have ht := taken (hall.mp hz)
      refine z_run1 tsX8_narrowsBy [60] 40 ?_
      simp (maxSteps := 1000000) -implicitDefEqProofs +contextual (disch := omega) only [z_wp_t, z_wp_u, ↓pI_e, ↓pL_e, ↓pO_e, ↓pR_e, ↓p1_I, ↓p1_O, z_gl, z_st1, z_st2, z_nl_I, z_nl_O, z_nl_J, z_nl_L, if_true, if_false, ite_true, ite_false, true_and, and_true, List.mem_cons, List.not_mem_nil, or_false, false_or, or_self, List.length_cons, List.length_nil, InR_t, InL_t, z_ix_t, mI_s1, mI_s2, ↓brT, ↓brF, ↓brT', ↓brF', mL_sI, mR_sI, mK_sI, mS_sI, mI_sL, mL_s1, mL_s2, mR_sL, mK_sL, mS_sL, mI_sR, mL_sR, mR_s1, mR_s2, mK_sR, mS_sR, mA_s1, mA_s2, mL_sA, mR_sA, mK_sA, mS_sA, ix_n, ix_a, ix_m, ix_s, z_sw, z_stop, forall_const, true_implies, false_implies, imp_self, implies_true, not_true_eq_false, not_false_eq_true, ne_eq, eq_self, Option.some.injEq, reduceCtorEq, Nat.reduceAdd, Nat.reduceSub, Nat.reduceMul, Nat.reduceEqDiff, Nat.reduceLT, Nat.reduceLeDiff, Int.reduceAdd, Int.reduceMul, Int.reduceSub, Int.reduceNeg, Int.reduceToNat, Int.reduceLT, Int.reduceLE, Int.reduceEq, ↓reduceIte, List.reverse_cons, Option.toList, List.cons_append, List.nil_append, vI_inj, vL_inj, vO_inj, rI, rL, rO, rV, mI_sQ, mL_sQ, mK_sQ, mS_sQ, mQ_s1, mQ_s2, iL_and, iL_or, iL_xor, iL_shl, iL_ushr, iR_and, iR_or, iR_xor, iR_shl, iR_shr, iR_ushr, iR_cmp, yc0, tlX8_narrowsBy, tkX8_narrowsBy, o_aload, o_dup2, o_getR, o_goto, o_iald, o_iand, o_iast, o_ic, o_iceq, o_ifne, o_iload, o_istore, o_ixor, o_zret, k0, k99, k100, k102, r9, r10, r12, hat, hth, hac, hwh, hz]
      try simp +contextual (disch := omega) only [impF, impT, and_true, true_and, implies_true, not_false_eq_true, not_true_eq_false]
      exact ht
    · have ht := ntaken (by
        cases hq : allN (fun v => !X (rCn A r) v || cB A r v) 5
        · rfl
        · exact absurd (hall.mpr hq) hz)
      refine z_run1 tsX8_narrowsBy [60] 40 ?_
      simp (maxSteps := 1000000) -implicitDefEqProofs +contextual (disch := omega) only [z_wp_t, z_wp_u, ↓pI_e, ↓pL_e, ↓pO_e, ↓pR_e, ↓p1_I, ↓p1_O, z_gl, z_st1, z_st2, z_nl_I, z_nl_O, z_nl_J, z_nl_L, if_true, if_false, ite_true, ite_false, true_and, and_true, List.mem_cons, List.not_mem_nil, or_false, false_or, or_self, List.length_cons, List.length_nil, InR_t, InL_t, z_ix_t, mI_s1, mI_s2, ↓brT, ↓brF, ↓brT', ↓brF', mL_sI, mR_sI, mK_sI, mS_sI, mI_sL, mL_s1, mL_s2, mR_sL, mK_sL, mS_sL, mI_sR, mL_sR, mR_s1, mR_s2, mK_sR, mS_sR, mA_s1, mA_s2, mL_sA, mR_sA, mK_sA, mS_sA, ix_n, ix_a, ix_m, ix_s, z_sw, z_stop, forall_const, true_implies, false_implies, imp_self, implies_true, not_true_eq_false, not_false_eq_true, ne_eq, eq_self, Option.some.injEq, reduceCtorEq, Nat.reduceAdd, Nat.reduceSub, Nat.reduceMul, Nat.reduceEqDiff, Nat.reduceLT, Nat.reduceLeDiff, Int.reduceAdd, Int.reduceMul, Int.reduceSub, Int.reduceNeg, Int.reduceToNat, Int.reduceLT, Int.reduceLE, Int.reduceEq, ↓reduceIte, List.reverse_cons, Option.toList, List.cons_append, List.nil_append, vI_inj, vL_inj, vO_inj, rI, rL, rO, rV, mI_sQ, mL_sQ, mK_sQ, mS_sQ, mQ_s1, mQ_s2, iL_and, iL_or, iL_xor, iL_shl, iL_ushr, iR_and, iR_or, iR_xor, iR_shl, iR_shr, iR_ushr, iR_cmp, yc0, tlX8_narrowsBy, tkX8_narrowsBy, o_aload, o_dup2, o_getR, o_goto, o_iald, o_iand, o_iast, o_ic, o_iceq, o_ifne, o_iload, o_istore, o_ixor, o_zret, k0, k99, k100, k102, r9, r10, r12, hat, hth, hac, hwh, hz]
      try simp +contextual (disch := omega) only [impF, impT, and_true, true_and, implies_true, not_false_eq_true, not_true_eq_false]
      exact ht
