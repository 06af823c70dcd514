/-! State.copyFrom, History -/
set_option maxHeartbeats 4000000 in
theorem sp_copyFrom (l : Launch) (G : zG) (h : zH) (a b : Nat) (A : zA) (hSa : ShS h a) (hS : StOK h b A) (hA : AOK A) (hd : a + 4 < b ∨ b + 4 < a) (ha : a + 4 < 109) (lv : Nat) (hlv : 1 ≤ lv) : z_Sp l G mtX6_copyFrom lv 0 0 [vR a, vR b] h (fun r h' => r = none ∧ Fr (fun c => a ≤ c ∧ c ≤ a + 4) h h' ∧ StOK h' a A) := by
  obtain ⟨j0, j1, j2, j3, j4, q0, q1, q2, q3, hty'⟩ := hSa
  have hS0 := hS
  obtain ⟨⟨k0, k1, k2, k3, k4, r0, r1, r2, r3, hty⟩, hn, hv, hl, hc, hf, hru⟩ := hS
  refine x_enter [vR a, vR b, vJ] (by decide +kernel) (by omega) rfl (Nat.le_of_ble_eq_true rfl) ?_
  refine z_run1 tsX6_copyFrom [] 10 ?_
  simp +contextual (disch := omega) only [z_wp_s, z_wp_0, pI_e, pL_e, pO_e, pR_e, p1_I, p1_O, z_gl, z_st1, z_st2, z_nl_I, z_nl_O, z_nl_J, z_nl_L, if_true, if_false, ite_true, ite_false, true_and, and_true, List.mem_cons, List.not_mem_nil, or_false, false_or, or_self, List.length_cons, List.length_nil, InR_t, InL_t, z_ix_t, mI_s1, mI_s2, ↓brT, ↓brF, ↓brT', ↓brF', mL_sI, mR_sI, mK_sI, mS_sI, mI_sL, mL_s1, mL_s2, mR_sL, mK_sL, mS_sL, mI_sR, mL_sR, mR_s1, mR_s2, mK_sR, mS_sR, mA_s1, mA_s2, mL_sA, mR_sA, mK_sA, mS_sA, ix_n, ix_a, ix_m, ix_s, z_sw, z_stop, forall_const, true_implies, false_implies, imp_self, implies_true, not_true_eq_false, not_false_eq_true, ne_eq, eq_self, Option.some.injEq, reduceCtorEq, Nat.reduceAdd, Nat.reduceSub, Nat.reduceMul, Nat.reduceEqDiff, Nat.reduceLT, Nat.reduceLeDiff, Int.reduceAdd, Int.reduceMul, Int.reduceSub, Int.reduceNeg, Int.reduceToNat, Int.reduceLT, Int.reduceLE, Int.reduceEq, ↓reduceIte, List.reverse_cons, Option.toList, List.cons_append, List.nil_append, vI_inj, vL_inj, vO_inj, rI, rL, rO, rV, mI_sQ, mL_sQ, mK_sQ, mS_sQ, mQ_s1, mQ_s2, tlX6_copyFrom, tkX6_copyFrom, o_aald, o_aast, o_aload, o_getI, o_getR, o_goto, o_ic, o_icge, o_iinc, o_iload, o_istore, o_putI, o_vret, k0, j0, r0, q0]
  refine x_acopy (by decide +kernel) aw_X6_34 ac_2 ac_3 ac_4 (by rw [k1]) (by rw [j1]) (by omega) (by omega) (by omega) (by rw [k1]; decide) (by rw [j1]; decide) (by rw [k1]; decide) (by rw [j1]; decide) (Nat.le_of_ble_eq_true rfl) ?_
  generalize hg1 : (fun j => if (0 : Int).toNat ≤ j ∧ j < (0 : Int).toNat + (32 : Int).toNat then gI h (b + 1) ((0 : Int).toNat + (j - (0 : Int).toNat)) else gI h (a + 1) j) = g1
  have e1 : ∀ j, j < 32 → g1 j = gI h (b + 1) j := fun j hj => by
    rw [← hg1]
    show (if 0 ≤ j ∧ j < 0 + 32 then gI h (b + 1) (0 + (j - 0)) else _) = _
    rw [if_pos (by omega), Nat.zero_add, Nat.sub_zero]
  clear hg1
  refine z_run1 tsX6_copyFrom [] 10 ?_
  simp +contextual (disch := omega) only [z_wp_s, z_wp_0, pI_e, pL_e, pO_e, pR_e, p1_I, p1_O, z_gl, z_st1, z_st2, z_nl_I, z_nl_O, z_nl_J, z_nl_L, if_true, if_false, ite_true, ite_false, true_and, and_true, List.mem_cons, List.not_mem_nil, or_false, false_or, or_self, List.length_cons, List.length_nil, InR_t, InL_t, z_ix_t, mI_s1, mI_s2, ↓brT, ↓brF, ↓brT', ↓brF', mL_sI, mR_sI, mK_sI, mS_sI, mI_sL, mL_s1, mL_s2, mR_sL, mK_sL, mS_sL, mI_sR, mL_sR, mR_s1, mR_s2, mK_sR, mS_sR, mA_s1, mA_s2, mL_sA, mR_sA, mK_sA, mS_sA, ix_n, ix_a, ix_m, ix_s, z_sw, z_stop, forall_const, true_implies, false_implies, imp_self, implies_true, not_true_eq_false, not_false_eq_true, ne_eq, eq_self, Option.some.injEq, reduceCtorEq, Nat.reduceAdd, Nat.reduceSub, Nat.reduceMul, Nat.reduceEqDiff, Nat.reduceLT, Nat.reduceLeDiff, Int.reduceAdd, Int.reduceMul, Int.reduceSub, Int.reduceNeg, Int.reduceToNat, Int.reduceLT, Int.reduceLE, Int.reduceEq, ↓reduceIte, List.reverse_cons, Option.toList, List.cons_append, List.nil_append, vI_inj, vL_inj, vO_inj, rI, rL, rO, rV, mI_sQ, mL_sQ, mK_sQ, mS_sQ, mQ_s1, mQ_s2, tlX6_copyFrom, tkX6_copyFrom, o_aald, o_aast, o_aload, o_getI, o_getR, o_goto, o_ic, o_icge, o_iinc, o_iload, o_istore, o_putI, o_vret, k0, j0, r1, q1]
  refine x_acopy (by decide +kernel) aw_X6_34 ac_2 ac_3 ac_4 (by rw [mK_sA, k2]) (by rw [mK_sA, j2]) (by omega) (by omega) (by omega) (by rw [mK_sA, k2]; decide) (by rw [mK_sA, j2]; decide) (by rw [mK_sA, k2]; decide) (by rw [mK_sA, j2]; decide) (Nat.le_of_ble_eq_true rfl) ?_
  generalize hg2 : (fun j => if (0 : Int).toNat ≤ j ∧ j < (0 : Int).toNat + (8 : Int).toNat then gI (sA h (a + 1) g1) (b + 2) ((0 : Int).toNat + (j - (0 : Int).toNat)) else gI (sA h (a + 1) g1) (a + 2) j) = g2
  have e2 : ∀ j, j < 8 → g2 j = gI h (b + 2) j := fun j hj => by
    rw [← hg2]
    show (if 0 ≤ j ∧ j < 0 + 8 then gI (sA h (a + 1) g1) (b + 2) (0 + (j - 0)) else _) = _
    rw [if_pos (by omega), Nat.zero_add, Nat.sub_zero, mA_s2 _ _ _ (by omega)]
  clear hg2
  refine z_run1 tsX6_copyFrom [] 10 ?_
  simp +contextual (disch := omega) only [z_wp_s, z_wp_0, pI_e, pL_e, pO_e, pR_e, p1_I, p1_O, z_gl, z_st1, z_st2, z_nl_I, z_nl_O, z_nl_J, z_nl_L, if_true, if_false, ite_true, ite_false, true_and, and_true, List.mem_cons, List.not_mem_nil, or_false, false_or, or_self, List.length_cons, List.length_nil, InR_t, InL_t, z_ix_t, mI_s1, mI_s2, ↓brT, ↓brF, ↓brT', ↓brF', mL_sI, mR_sI, mK_sI, mS_sI, mI_sL, mL_s1, mL_s2, mR_sL, mK_sL, mS_sL, mI_sR, mL_sR, mR_s1, mR_s2, mK_sR, mS_sR, mA_s1, mA_s2, mL_sA, mR_sA, mK_sA, mS_sA, ix_n, ix_a, ix_m, ix_s, z_sw, z_stop, forall_const, true_implies, false_implies, imp_self, implies_true, not_true_eq_false, not_false_eq_true, ne_eq, eq_self, Option.some.injEq, reduceCtorEq, Nat.reduceAdd, Nat.reduceSub, Nat.reduceMul, Nat.reduceEqDiff, Nat.reduceLT, Nat.reduceLeDiff, Int.reduceAdd, Int.reduceMul, Int.reduceSub, Int.reduceNeg, Int.reduceToNat, Int.reduceLT, Int.reduceLE, Int.reduceEq, ↓reduceIte, List.reverse_cons, Option.toList, List.cons_append, List.nil_append, vI_inj, vL_inj, vO_inj, rI, rL, rO, rV, mI_sQ, mL_sQ, mK_sQ, mS_sQ, mQ_s1, mQ_s2, tlX6_copyFrom, tkX6_copyFrom, o_aald, o_aast, o_aload, o_getI, o_getR, o_goto, o_ic, o_icge, o_iinc, o_iload, o_istore, o_putI, o_vret, k0, j0, r2, q2]
  refine x_acopy (by decide +kernel) aw_X6_34 ac_2 ac_3 ac_4 (by rw [mK_sA, mK_sA, k3]) (by rw [mK_sA, mK_sA, j3]) (by omega) (by omega) (by omega) (by rw [mK_sA, mK_sA, k3]; decide) (by rw [mK_sA, mK_sA, j3]; decide) (by rw [mK_sA, mK_sA, k3]; decide) (by rw [mK_sA, mK_sA, j3]; decide) (Nat.le_of_ble_eq_true rfl) ?_
  generalize hg3 : (fun j => if (0 : Int).toNat ≤ j ∧ j < (0 : Int).toNat + (8 : Int).toNat then gI (sA (sA h (a + 1) g1) (a + 2) g2) (b + 3) ((0 : Int).toNat + (j - (0 : Int).toNat)) else gI (sA (sA h (a + 1) g1) (a + 2) g2) (a + 3) j) = g3
  have e3 : ∀ j, j < 8 → g3 j = gI h (b + 3) j := fun j hj => by
    rw [← hg3]
    show (if 0 ≤ j ∧ j < 0 + 8 then gI (sA (sA h (a + 1) g1) (a + 2) g2) (b + 3) (0 + (j - 0)) else _) = _
    rw [if_pos (by omega), Nat.zero_add, Nat.sub_zero, mA_s2 _ _ _ (by omega), mA_s2 _ _ _ (by omega)]
  clear hg3
  refine z_run1 tsX6_copyFrom [47] 10 ?_
  simp +contextual (disch := omega) only [z_wp_s, z_wp_0, pI_e, pL_e, pO_e, pR_e, p1_I, p1_O, z_gl, z_st1, z_st2, z_nl_I, z_nl_O, z_nl_J, z_nl_L, if_true, if_false, ite_true, ite_false, true_and, and_true, List.mem_cons, List.not_mem_nil, or_false, false_or, or_self, List.length_cons, List.length_nil, InR_t, InL_t, z_ix_t, mI_s1, mI_s2, ↓brT, ↓brF, ↓brT', ↓brF', mL_sI, mR_sI, mK_sI, mS_sI, mI_sL, mL_s1, mL_s2, mR_sL, mK_sL, mS_sL, mI_sR, mL_sR, mR_s1, mR_s2, mK_sR, mS_sR, mA_s1, mA_s2, mL_sA, mR_sA, mK_sA, mS_sA, ix_n, ix_a, ix_m, ix_s, z_sw, z_stop, forall_const, true_implies, false_implies, imp_self, implies_true, not_true_eq_false, not_false_eq_true, ne_eq, eq_self, Option.some.injEq, reduceCtorEq, Nat.reduceAdd, Nat.reduceSub, Nat.reduceMul, Nat.reduceEqDiff, Nat.reduceLT, Nat.reduceLeDiff, Int.reduceAdd, Int.reduceMul, Int.reduceSub, Int.reduceNeg, Int.reduceToNat, Int.reduceLT, Int.reduceLE, Int.reduceEq, ↓reduceIte, List.reverse_cons, Option.toList, List.cons_append, List.nil_append, vI_inj, vL_inj, vO_inj, rI, rL, rO, rV, mI_sQ, mL_sQ, mK_sQ, mS_sQ, mQ_s1, mQ_s2, tlX6_copyFrom, tkX6_copyFrom, o_aald, o_aast, o_aload, o_getI, o_getR, o_goto, o_ic, o_icge, o_iinc, o_iload, o_istore, o_putI, o_vret, k0, j0]
  have hlo : ∀ (d i : Nat) (g : Nat → Option Nat), (∀ j, g j = if j < i then gR h (b + 4) j else gR h (a + 4) j) → i + d = 20 → z_X l G mtX6_copyFrom lv 0 0 (fun r h' => r = none ∧ Fr (fun c => a ≤ c ∧ c ≤ a + 4) h h' ∧ StOK h' a A) 0 0 (sQ (sA (sA (sA h (a + 1) g1) (a + 2) g2) (a + 3) g3) (a + 4) g) 47 [vR a, vR b, vI i] [] := by
    intro d
    induction d with
    | zero =>
      intro i g hg h1
      refine z_run1 tsX6_copyFrom [47] 40 ?_
      simp +contextual (disch := omega) only [z_wp_s, z_wp_0, pI_e, pL_e, pO_e, pR_e, p1_I, p1_O, z_gl, z_st1, z_st2, z_nl_I, z_nl_O, z_nl_J, z_nl_L, if_true, if_false, ite_true, ite_false, true_and, and_true, List.mem_cons, List.not_mem_nil, or_false, false_or, or_self, List.length_cons, List.length_nil, InR_t, InL_t, z_ix_t, mI_s1, mI_s2, ↓brT, ↓brF, ↓brT', ↓brF', mL_sI, mR_sI, mK_sI, mS_sI, mI_sL, mL_s1, mL_s2, mR_sL, mK_sL, mS_sL, mI_sR, mL_sR, mR_s1, mR_s2, mK_sR, mS_sR, mA_s1, mA_s2, mL_sA, mR_sA, mK_sA, mS_sA, ix_n, ix_a, ix_m, ix_s, z_sw, z_stop, forall_const, true_implies, false_implies, imp_self, implies_true, not_true_eq_false, not_false_eq_true, ne_eq, eq_self, Option.some.injEq, reduceCtorEq, Nat.reduceAdd, Nat.reduceSub, Nat.reduceMul, Nat.reduceEqDiff, Nat.reduceLT, Nat.reduceLeDiff, Int.reduceAdd, Int.reduceMul, Int.reduceSub, Int.reduceNeg, Int.reduceToNat, Int.reduceLT, Int.reduceLE, Int.reduceEq, ↓reduceIte, List.reverse_cons, Option.toList, List.cons_append, List.nil_append, vI_inj, vL_inj, vO_inj, rI, rL, rO, rV, mI_sQ, mL_sQ, mK_sQ, mS_sQ, mQ_s1, mQ_s2, tlX6_copyFrom, tkX6_copyFrom, o_aald, o_aast, o_aload, o_getI, o_getR, o_goto, o_ic, o_icge, o_iinc, o_iload, o_istore, o_putI, o_vret, k0, j0, hc, hf]
      have hfr : Fr (fun c => a ≤ c ∧ c ≤ a + 4) h (sI (sI (sQ (sA (sA (sA h (a + 1) g1) (a + 2) g2) (a + 3) g3) (a + 4) g) a 4 (aC A)) a 5 (aF A)) := by
        refine Fr.tr' (Fr.tr' (Fr.tr' (Fr.tr' (Fr.tr' (Fr.sA _ _ _ _ ⟨by omega, by omega⟩) (Fr.sA _ _ _ _ ⟨by omega, by omega⟩) (fun _ q => q) (fun _ q => q)) (Fr.sA _ _ _ _ ⟨by omega, by omega⟩) (fun _ q => q) (fun _ q => q)) (Fr.sQ _ _ _ _ ⟨by omega, by omega⟩) (fun _ q => q) (fun _ q => q)) (Fr.sI _ _ _ _ _ ⟨by omega, by omega⟩) (fun _ q => q) (fun _ q => q)) (Fr.sI _ _ _ _ _ ⟨by omega, by omega⟩) (fun _ q => q) (fun _ q => q)
      refine ⟨hfr, ⟨j0, j1, j2, j3, j4, ?_, ?_, ?_, ?_, ?_⟩, ?_, ?_, ?_, ?_, ?_, ?_⟩
      · rw [mR_sI, mR_sI, mQ_s2 _ _ _ (by omega)]; exact q0
      · rw [mR_sI, mR_sI, mQ_s2 _ _ _ (by omega)]; exact q1
      · rw [mR_sI, mR_sI, mQ_s2 _ _ _ (by omega)]; exact q2
      · rw [mR_sI, mR_sI, mQ_s2 _ _ _ (by omega)]; exact q3
      · intro r q hq
        rw [mR_sI, mR_sI, mQ_s1, hg] at hq
        split at hq
        · exact hty _ _ hq
        · exact hty' _ _ hq
      · intro p hp
        rw [mI_s2 _ _ (Or.inl (by omega)), mI_s2 _ _ (Or.inl (by omega)), mI_sQ, mA_s2 _ _ _ (by omega), mA_s1, e2 p hp]
        exact hn p hp
      · intro p y hp hy
        have hb := hA.1 p hp
        rw [mI_s2 _ _ (Or.inl (by omega)), mI_s2 _ _ (Or.inl (by omega)), mI_sQ, mA_s2 _ _ _ (by omega), mA_s2 _ _ _ (by omega), mA_s1, e1 _ (by omega)]
        exact hv p y hp hy
      · intro p hp
        rw [mI_s2 _ _ (Or.inl (by omega)), mI_s2 _ _ (Or.inl (by omega)), mI_sQ, mA_s1, e3 p hp]
        exact hl p hp
      · rw [mI_s2 _ _ (Or.inr (by omega)), mI_s1]
      · rw [mI_s1]
      · intro r hr
        have h20 := hA.2.2.2.2.1
        obtain ⟨q, g1, g2⟩ := hru r hr
        exact ⟨q, by rw [mR_sI, mR_sI, mQ_s1, hg, if_pos (by omega)]; exact g1, g2.fr hfr (fun q hq => by omega)⟩
    | succ d ih =>
      intro i g hg h1
      have hq : ∀ v, gR h (b + 4) i = some v → (gK h v).1 = 4 := fun v hv => hty _ _ hv
      refine z_run1 tsX6_copyFrom [47] 40 ?_
      simp +contextual (disch := omega) only [z_wp_s, z_wp_0, pI_e, pL_e, pO_e, pR_e, p1_I, p1_O, z_gl, z_st1, z_st2, z_nl_I, z_nl_O, z_nl_J, z_nl_L, if_true, if_false, ite_true, ite_false, true_and, and_true, List.mem_cons, List.not_mem_nil, or_false, false_or, or_self, List.length_cons, List.length_nil, InR_t, InL_t, z_ix_t, mI_s1, mI_s2, ↓brT, ↓brF, ↓brT', ↓brF', mL_sI, mR_sI, mK_sI, mS_sI, mI_sL, mL_s1, mL_s2, mR_sL, mK_sL, mS_sL, mI_sR, mL_sR, mR_s1, mR_s2, mK_sR, mS_sR, mA_s1, mA_s2, mL_sA, mR_sA, mK_sA, mS_sA, ix_n, ix_a, ix_m, ix_s, z_sw, z_stop, forall_const, true_implies, false_implies, imp_self, implies_true, not_true_eq_false, not_false_eq_true, ne_eq, eq_self, Option.some.injEq, reduceCtorEq, Nat.reduceAdd, Nat.reduceSub, Nat.reduceMul, Nat.reduceEqDiff, Nat.reduceLT, Nat.reduceLeDiff, Int.reduceAdd, Int.reduceMul, Int.reduceSub, Int.reduceNeg, Int.reduceToNat, Int.reduceLT, Int.reduceLE, Int.reduceEq, ↓reduceIte, List.reverse_cons, Option.toList, List.cons_append, List.nil_append, vI_inj, vL_inj, vO_inj, rI, rL, rO, rV, mI_sQ, mL_sQ, mK_sQ, mS_sQ, mQ_s1, mQ_s2, tlX6_copyFrom, tkX6_copyFrom, o_aald, o_aast, o_aload, o_getI, o_getR, o_goto, o_ic, o_icge, o_iinc, o_iload, o_istore, o_putI, o_vret, k0, j0, k4, j4, r3, q3, sR_sQ]
      refine ⟨hq, ih (i + 1) _ (fun y => ?_) (by omega)⟩
      unfold up
      by_cases hx : y = i
      · rw [if_pos hx, if_pos (by omega), hx]
      · rw [if_neg hx, hg]
        by_cases h3 : y < i
        · rw [if_pos h3, if_pos (by omega)]
        · rw [if_neg h3, if_neg (by omega)]
  have h0 := hlo 20 0 (gR h (a + 4)) (fun x => by rw [if_neg (by omega)]) (by omega)
  have e : gR h (a + 4) = gR (sA (sA (sA h (a + 1) g1) (a + 2) g2) (a + 3) g3) (a + 4) := rfl
  rw [e, sQ_self] at h0
  exact h0
