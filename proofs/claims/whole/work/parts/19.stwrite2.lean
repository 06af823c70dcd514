set_option maxHeartbeats 4000000 in
theorem sp_removeVersion (l : Launch) (G : zG) (h : zH) (a p j : Nat) (v : Int) (A : zA) (hS : StOK h a A) (hA : AOK A) (hp : p < 8) (hvr : InR v) (hj : fIx (aV A p) v (aN A p) 0 = (j : Int)) (hjn : j < aN A p) (ha : a + 4 < 109) (lv : Nat) (hlv : 3 ≤ lv) : z_Sp l G mtX6_removeVersion lv 0 0 [vR a, vI p, vI v] h (fun r h' => r = none ∧ Fr (fun c => c = a + 1 ∨ c = a + 2) h h' ∧ StOK h' a (remA A p j)) := by
  have hS0 := hS
  obtain ⟨⟨k0, k1, k2, k3, k4, r0, r1, r2, r3, hty⟩, hn, hv, hl, hc, hf, hru⟩ := hS
  have hb := hA.1 p hp
  refine x_enter [vR a, vI p, vI v, vJ, vJ, vJ] (by decide +kernel) (by omega) rfl (Nat.le_of_ble_eq_true rfl) ?_
  refine z_run1 tsX6_removeVersion [] 10 ?_
  simp +contextual (disch := omega) only [z_wp_s, z_wp_0, pI_e, pL_e, pO_e, pR_e, p1_I, p1_O, z_gl, z_st1, z_st2, z_nl_I, z_nl_O, z_nl_J, z_nl_L, if_true, if_false, ite_true, ite_false, true_and, and_true, List.mem_cons, List.not_mem_nil, or_false, false_or, or_self, List.length_cons, List.length_nil, InR_t, InL_t, z_ix_t, mI_s1, mI_s2, ↓brT, ↓brF, ↓brT', ↓brF', mL_sI, mR_sI, mK_sI, mS_sI, mI_sL, mL_s1, mL_s2, mR_sL, mK_sL, mS_sL, mI_sR, mL_sR, mR_s1, mR_s2, mK_sR, mS_sR, mA_s1, mA_s2, mL_sA, mR_sA, mK_sA, mS_sA, ix_n, ix_a, ix_m, ix_s, z_sw, z_stop, forall_const, true_implies, false_implies, imp_self, implies_true, not_true_eq_false, not_false_eq_true, ne_eq, eq_self, Option.some.injEq, reduceCtorEq, Nat.reduceAdd, Nat.reduceSub, Nat.reduceMul, Nat.reduceEqDiff, Nat.reduceLT, Nat.reduceLeDiff, Int.reduceAdd, Int.reduceMul, Int.reduceSub, Int.reduceNeg, Int.reduceToNat, Int.reduceLT, Int.reduceLE, Int.reduceEq, ↓reduceIte, List.reverse_cons, Option.toList, List.cons_append, List.nil_append, vI_inj, vL_inj, vO_inj, rI, rL, rO, rV, mI_sQ, mL_sQ, mK_sQ, mS_sQ, mQ_s1, mQ_s2, tlX6_removeVersion, tkX6_removeVersion, o_aload, o_dup2, o_getR, o_goto, o_iadd, o_iald, o_iast, o_ic, o_icge, o_icne, o_iinc, o_iload, o_imul, o_istore, o_isub, o_vret]
  refine x_callV (by decide +kernel) cv_X6_51 (sp_placeOf l G _ a p v A hS0 hA hp hvr 2 (by omega)) k0 (by omega) rfl (by omega) (by omega) rfl (Nat.le_of_ble_eq_true rfl) ?_
  rintro r h'' ⟨rfl, rfl⟩
  rw [hj]
  refine z_run1 tsX6_removeVersion [21] 30 ?_
  simp +contextual (disch := omega) only [z_wp_s, z_wp_0, pI_e, pL_e, pO_e, pR_e, p1_I, p1_O, z_gl, z_st1, z_st2, z_nl_I, z_nl_O, z_nl_J, z_nl_L, if_true, if_false, ite_true, ite_false, true_and, and_true, List.mem_cons, List.not_mem_nil, or_false, false_or, or_self, List.length_cons, List.length_nil, InR_t, InL_t, z_ix_t, mI_s1, mI_s2, ↓brT, ↓brF, ↓brT', ↓brF', mL_sI, mR_sI, mK_sI, mS_sI, mI_sL, mL_s1, mL_s2, mR_sL, mK_sL, mS_sL, mI_sR, mL_sR, mR_s1, mR_s2, mK_sR, mS_sR, mA_s1, mA_s2, mL_sA, mR_sA, mK_sA, mS_sA, ix_n, ix_a, ix_m, ix_s, z_sw, z_stop, forall_const, true_implies, false_implies, imp_self, implies_true, not_true_eq_false, not_false_eq_true, ne_eq, eq_self, Option.some.injEq, reduceCtorEq, Nat.reduceAdd, Nat.reduceSub, Nat.reduceMul, Nat.reduceEqDiff, Nat.reduceLT, Nat.reduceLeDiff, Int.reduceAdd, Int.reduceMul, Int.reduceSub, Int.reduceNeg, Int.reduceToNat, Int.reduceLT, Int.reduceLE, Int.reduceEq, ↓reduceIte, List.reverse_cons, Option.toList, List.cons_append, List.nil_append, vI_inj, vL_inj, vO_inj, rI, rL, rO, rV, mI_sQ, mL_sQ, mK_sQ, mS_sQ, mQ_s1, mQ_s2, tlX6_removeVersion, tkX6_removeVersion, o_aload, o_dup2, o_getR, o_goto, o_iadd, o_iald, o_iast, o_ic, o_icge, o_icne, o_iinc, o_iload, o_imul, o_istore, o_isub, o_vret]
  have hlo : ∀ (d i : Nat) (g : Nat → Int), (∀ x, g x = if p * 4 + j ≤ x ∧ x < p * 4 + i then gI h'' (a + 1) (x + 1) else gI h'' (a + 1) x) → j ≤ i → i + d + 1 = aN A p → z_X l G mtX6_removeVersion lv 0 0 (fun r h' => r = none ∧ Fr (fun c => c = a + 1 ∨ c = a + 2) h'' h' ∧ StOK h' a (remA A p j)) 0 0 (sA h'' (a + 1) g) 21 [vR a, vI p, vI v, vI j, vI (p * 4), vI i] [] := by
    intro d
    induction d with
    | zero =>
      intro i g hg h1 h2
      refine z_run1 tsX6_removeVersion [21] 40 ?_
      simp +contextual (disch := omega) only [z_wp_s, z_wp_0, pI_e, pL_e, pO_e, pR_e, p1_I, p1_O, z_gl, z_st1, z_st2, z_nl_I, z_nl_O, z_nl_J, z_nl_L, if_true, if_false, ite_true, ite_false, true_and, and_true, List.mem_cons, List.not_mem_nil, or_false, false_or, or_self, List.length_cons, List.length_nil, InR_t, InL_t, z_ix_t, mI_s1, mI_s2, ↓brT, ↓brF, ↓brT', ↓brF', mL_sI, mR_sI, mK_sI, mS_sI, mI_sL, mL_s1, mL_s2, mR_sL, mK_sL, mS_sL, mI_sR, mL_sR, mR_s1, mR_s2, mK_sR, mS_sR, mA_s1, mA_s2, mL_sA, mR_sA, mK_sA, mS_sA, ix_n, ix_a, ix_m, ix_s, z_sw, z_stop, forall_const, true_implies, false_implies, imp_self, implies_true, not_true_eq_false, not_false_eq_true, ne_eq, eq_self, Option.some.injEq, reduceCtorEq, Nat.reduceAdd, Nat.reduceSub, Nat.reduceMul, Nat.reduceEqDiff, Nat.reduceLT, Nat.reduceLeDiff, Int.reduceAdd, Int.reduceMul, Int.reduceSub, Int.reduceNeg, Int.reduceToNat, Int.reduceLT, Int.reduceLE, Int.reduceEq, ↓reduceIte, List.reverse_cons, Option.toList, List.cons_append, List.nil_append, vI_inj, vL_inj, vO_inj, rI, rL, rO, rV, mI_sQ, mL_sQ, mK_sQ, mS_sQ, mQ_s1, mQ_s2, tlX6_removeVersion, tkX6_removeVersion, o_aload, o_dup2, o_getR, o_goto, o_iadd, o_iald, o_iast, o_ic, o_icge, o_icne, o_iinc, o_iload, o_imul, o_istore, o_isub, o_vret, k0, k1, k2, r0, r1, hn]
      have hfr : Fr (fun c => c = a + 1 ∨ c = a + 2) h'' (sI (sA h'' (a + 1) g) (a + 2) p (aN A p - 1)) := (Fr.sA _ _ _ _ (Or.inl rfl)).tr' (Fr.sI _ _ _ _ _ (Or.inr rfl)) (fun _ q => q) (fun _ q => q)
      refine ⟨hfr, ⟨k0, k1, k2, k3, k4, r0, r1, r2, r3, hty⟩, ?_, ?_, ?_, ?_, ?_, ?_⟩
      · intro q hq
        by_cases hqp : q = p
        · subst hqp
          rw [mI_s1]
          simp [remA, aN, up]
          unfold aN at h2
          omega
        · rw [mI_s2 _ _ (Or.inr hqp), mA_s2 _ _ _ (by omega), hn q hq]
          simp [remA, aN, up, hqp]
      · intro q x hq hx
        rw [mI_s2 _ _ (Or.inl (by omega)), mA_s1, hg]
        by_cases hqp : q = p
        · subst hqp
          have hx2 : x < aN A q - 1 := by simpa [remA, aN, up] using hx
          have e : aV (remA A q j) q x = remF (aV A q) j x := by simp [remA, aV, up]
          rw [e]
          unfold remF
          by_cases h3 : x < j
          · rw [if_pos h3, if_neg (by omega), hv q x hq (by omega)]
          · rw [if_neg h3, if_pos (by omega), show q * 4 + x + 1 = q * 4 + (x + 1) by omega, hv q (x + 1) hq (by omega)]
        · have hx2 : x < aN A q := by simpa [remA, aN, up, hqp] using hx
          have hb2 := hA.1 q hq
          have e : aV (remA A p j) q x = aV A q x := by simp [remA, aV, up, hqp]
          rw [e, if_neg (by omega), hv q x hq hx2]
      · intro q hq
        rw [mI_s2 _ _ (Or.inl (by omega)), mA_s2 _ _ _ (by omega)]
        exact hl q hq
      · rw [mI_s2 _ _ (Or.inl (by omega)), mA_s2 _ _ _ (by omega)]
        exact hc
      · rw [mI_s2 _ _ (Or.inl (by omega)), mA_s2 _ _ _ (by omega)]
        exact hf
      · intro r hr
        obtain ⟨q, g1, g2⟩ := hru r hr
        exact ⟨q, g1, g2.fr hfr (fun q hq => by omega)⟩
    | succ d ih =>
      intro i g hg h1 h2
      refine z_run1 tsX6_removeVersion [21] 40 ?_
      simp +contextual (disch := omega) only [z_wp_s, z_wp_0, pI_e, pL_e, pO_e, pR_e, p1_I, p1_O, z_gl, z_st1, z_st2, z_nl_I, z_nl_O, z_nl_J, z_nl_L, if_true, if_false, ite_true, ite_false, true_and, and_true, List.mem_cons, List.not_mem_nil, or_false, false_or, or_self, List.length_cons, List.length_nil, InR_t, InL_t, z_ix_t, mI_s1, mI_s2, ↓brT, ↓brF, ↓brT', ↓brF', mL_sI, mR_sI, mK_sI, mS_sI, mI_sL, mL_s1, mL_s2, mR_sL, mK_sL, mS_sL, mI_sR, mL_sR, mR_s1, mR_s2, mK_sR, mS_sR, mA_s1, mA_s2, mL_sA, mR_sA, mK_sA, mS_sA, ix_n, ix_a, ix_m, ix_s, z_sw, z_stop, forall_const, true_implies, false_implies, imp_self, implies_true, not_true_eq_false, not_false_eq_true, ne_eq, eq_self, Option.some.injEq, reduceCtorEq, Nat.reduceAdd, Nat.reduceSub, Nat.reduceMul, Nat.reduceEqDiff, Nat.reduceLT, Nat.reduceLeDiff, Int.reduceAdd, Int.reduceMul, Int.reduceSub, Int.reduceNeg, Int.reduceToNat, Int.reduceLT, Int.reduceLE, Int.reduceEq, ↓reduceIte, List.reverse_cons, Option.toList, List.cons_append, List.nil_append, vI_inj, vL_inj, vO_inj, rI, rL, rO, rV, mI_sQ, mL_sQ, mK_sQ, mS_sQ, mQ_s1, mQ_s2, tlX6_removeVersion, tkX6_removeVersion, o_aload, o_dup2, o_getR, o_goto, o_iadd, o_iald, o_iast, o_ic, o_icge, o_icne, o_iinc, o_iload, o_imul, o_istore, o_isub, o_vret, k0, k1, k2, r0, r1, hn, sI_sA]
      refine ih (i + 1) _ (fun x => ?_) (by omega) (by omega)
      unfold up
      by_cases hx : x = p * 4 + i
      · rw [if_pos hx, if_pos (by omega), hx, hg, if_neg (by omega)]
      · rw [if_neg hx, hg]
        by_cases h3 : p * 4 + j ≤ x ∧ x < p * 4 + i
        · rw [if_pos h3, if_pos (by omega)]
        · rw [if_neg h3, if_neg (by omega)]
  have h0 := hlo (aN A p - 1 - j) j (gI h'' (a + 1)) (fun x => by rw [if_neg (by omega)]) (by omega) (by omega)
  rw [sA_self] at h0
  exact h0
set_option maxHeartbeats 4000000 in
theorem sp_appendRule (l : Launch) (G : zG) (h : zH) (a q : Nat) (A : zA) (hS : StOK h a A) (hc20 : aC A < 20) (hq : (gK h q).1 = 4) (lv : Nat) (hlv : 1 ≤ lv) : z_Sp l G mtX6_appendRule lv 0 0 [vR a, vR q] h (rV (sI (sR h (a + 4) (aC A) (some q)) a 4 (aC A + 1))) := by
  obtain ⟨⟨k0, k1, k2, k3, k4, r0, r1, r2, r3, hty⟩, hn, hv, hl, hc, hf, hru⟩ := hS
  refine x_enter [vR a, vR q] (by decide +kernel) (by omega) rfl (Nat.le_of_ble_eq_true rfl) ?_
  refine z_run1 tsX6_appendRule [] 40 ?_
  simp +contextual (disch := omega) only [z_wp_s, z_wp_0, pI_e, pL_e, pO_e, pR_e, p1_I, p1_O, z_gl, z_st1, z_st2, z_nl_I, z_nl_O, z_nl_J, z_nl_L, if_true, if_false, ite_true, ite_false, true_and, and_true, List.mem_cons, List.not_mem_nil, or_false, false_or, or_self, List.length_cons, List.length_nil, InR_t, InL_t, z_ix_t, mI_s1, mI_s2, ↓brT, ↓brF, ↓brT', ↓brF', mL_sI, mR_sI, mK_sI, mS_sI, mI_sL, mL_s1, mL_s2, mR_sL, mK_sL, mS_sL, mI_sR, mL_sR, mR_s1, mR_s2, mK_sR, mS_sR, mA_s1, mA_s2, mL_sA, mR_sA, mK_sA, mS_sA, ix_n, ix_a, ix_m, ix_s, z_sw, z_stop, forall_const, true_implies, false_implies, imp_self, implies_true, not_true_eq_false, not_false_eq_true, ne_eq, eq_self, Option.some.injEq, reduceCtorEq, Nat.reduceAdd, Nat.reduceSub, Nat.reduceMul, Nat.reduceEqDiff, Nat.reduceLT, Nat.reduceLeDiff, Int.reduceAdd, Int.reduceMul, Int.reduceSub, Int.reduceNeg, Int.reduceToNat, Int.reduceLT, Int.reduceLE, Int.reduceEq, ↓reduceIte, List.reverse_cons, Option.toList, List.cons_append, List.nil_append, vI_inj, vL_inj, vO_inj, rI, rL, rO, rV, mI_sQ, mL_sQ, mK_sQ, mS_sQ, mQ_s1, mQ_s2, tlX6_appendRule, o_aast, o_aload, o_dup, o_getI, o_getR, o_iadd, o_ic, o_icge, o_putI, o_vret, k0, k4, r3, hc]
  intro v hv
  rw [← hv]
  exact hq
def remR (A : zA) (r : Nat) : zA := (A.1, (aC A - 1, aF A), fun j => if j < r then aR A j else aR A (j + 1))
set_option maxHeartbeats 4000000 in
theorem sp_removeRule (l : Launch) (G : zG) (h : zH) (a x : Nat) (A : zA) (hS : StOK h a A) (hA : AOK A) (hx : x < aC A) (ha : a + 4 < 109) (lv : Nat) (hlv : 1 ≤ lv) : z_Sp l G mtX6_removeRule lv 0 0 [vR a, vI x] h (fun r h' => r = none ∧ Fr (fun c => c = a ∨ c = a + 4) h h' ∧ StOK h' a (remR A x)) := by
  obtain ⟨⟨k0, k1, k2, k3, k4, r0, r1, r2, r3, hty⟩, hn, hv, hl, hc, hf, hru⟩ := hS
  have hb := hA.2.2.2.2.1
  refine x_enter [vR a, vI x, vJ] (by decide +kernel) (by omega) rfl (Nat.le_of_ble_eq_true rfl) ?_
  refine z_run1 tsX6_removeRule [15] 20 ?_
  simp +contextual (disch := omega) only [z_wp_s, z_wp_0, pI_e, pL_e, pO_e, pR_e, p1_I, p1_O, z_gl, z_st1, z_st2, z_nl_I, z_nl_O, z_nl_J, z_nl_L, if_true, if_false, ite_true, ite_false, true_and, and_true, List.mem_cons, List.not_mem_nil, or_false, false_or, or_self, List.length_cons, List.length_nil, InR_t, InL_t, z_ix_t, mI_s1, mI_s2, ↓brT, ↓brF, ↓brT', ↓brF', mL_sI, mR_sI, mK_sI, mS_sI, mI_sL, mL_s1, mL_s2, mR_sL, mK_sL, mS_sL, mI_sR, mL_sR, mR_s1, mR_s2, mK_sR, mS_sR, mA_s1, mA_s2, mL_sA, mR_sA, mK_sA, mS_sA, ix_n, ix_a, ix_m, ix_s, z_sw, z_stop, forall_const, true_implies, false_implies, imp_self, implies_true, not_true_eq_false, not_false_eq_true, ne_eq, eq_self, Option.some.injEq, reduceCtorEq, Nat.reduceAdd, Nat.reduceSub, Nat.reduceMul, Nat.reduceEqDiff, Nat.reduceLT, Nat.reduceLeDiff, Int.reduceAdd, Int.reduceMul, Int.reduceSub, Int.reduceNeg, Int.reduceToNat, Int.reduceLT, Int.reduceLE, Int.reduceEq, ↓reduceIte, List.reverse_cons, Option.toList, List.cons_append, List.nil_append, vI_inj, vL_inj, vO_inj, rI, rL, rO, rV, mI_sQ, mL_sQ, mK_sQ, mS_sQ, mQ_s1, mQ_s2, tlX6_removeRule, o_aald, o_aast, o_aload, o_dup, o_getI, o_getR, o_goto, o_iadd, o_ic, o_icge, o_iclt, o_iflt, o_iinc, o_iload, o_istore, o_isub, o_putI, o_vret, k0, hc]
  have hlo : ∀ (d i : Nat) (g : Nat → Option Nat), (∀ j, g j = if x ≤ j ∧ j < i then gR h (a + 4) (j + 1) else gR h (a + 4) j) → x ≤ i → i + d + 1 = aC A → z_X l G mtX6_removeRule lv 0 0 (fun r h' => r = none ∧ Fr (fun c => c = a ∨ c = a + 4) h h' ∧ StOK h' a (remR A x)) 0 0 (sQ h (a + 4) g) 15 [vR a, vI x, vI i] [] := by
    intro d
    induction d with
    | zero =>
      intro i g hg h1 h2
      refine z_run1 tsX6_removeRule [15] 40 ?_
      simp +contextual (disch := omega) only [z_wp_s, z_wp_0, pI_e, pL_e, pO_e, pR_e, p1_I, p1_O, z_gl, z_st1, z_st2, z_nl_I, z_nl_O, z_nl_J, z_nl_L, if_true, if_false, ite_true, ite_false, true_and, and_true, List.mem_cons, List.not_mem_nil, or_false, false_or, or_self, List.length_cons, List.length_nil, InR_t, InL_t, z_ix_t, mI_s1, mI_s2, ↓brT, ↓brF, ↓brT', ↓brF', mL_sI, mR_sI, mK_sI, mS_sI, mI_sL, mL_s1, mL_s2, mR_sL, mK_sL, mS_sL, mI_sR, mL_sR, mR_s1, mR_s2, mK_sR, mS_sR, mA_s1, mA_s2, mL_sA, mR_sA, mK_sA, mS_sA, ix_n, ix_a, ix_m, ix_s, z_sw, z_stop, forall_const, true_implies, false_implies, imp_self, implies_true, not_true_eq_false, not_false_eq_true, ne_eq, eq_self, Option.some.injEq, reduceCtorEq, Nat.reduceAdd, Nat.reduceSub, Nat.reduceMul, Nat.reduceEqDiff, Nat.reduceLT, Nat.reduceLeDiff, Int.reduceAdd, Int.reduceMul, Int.reduceSub, Int.reduceNeg, Int.reduceToNat, Int.reduceLT, Int.reduceLE, Int.reduceEq, ↓reduceIte, List.reverse_cons, Option.toList, List.cons_append, List.nil_append, vI_inj, vL_inj, vO_inj, rI, rL, rO, rV, mI_sQ, mL_sQ, mK_sQ, mS_sQ, mQ_s1, mQ_s2, tlX6_removeRule, o_aald, o_aast, o_aload, o_dup, o_getI, o_getR, o_goto, o_iadd, o_ic, o_icge, o_iclt, o_iflt, o_iinc, o_iload, o_istore, o_isub, o_putI, o_vret, k0, k4, r3, hc]
      have hfr : Fr (fun c => c = a ∨ c = a + 4) h (sI (sQ h (a + 4) g) a 4 (aC A - 1)) := (Fr.sQ _ _ _ _ (Or.inr rfl)).tr' (Fr.sI _ _ _ _ _ (Or.inl rfl)) (fun _ q => q) (fun _ q => q)
      refine ⟨hfr, ⟨k0, k1, k2, k3, k4, ?_, ?_, ?_, ?_, ?_⟩, ?_, ?_, ?_, ?_, ?_, ?_⟩
      · rw [mR_sI, mQ_s2 _ _ _ (by omega)]; exact r0
      · rw [mR_sI, mQ_s2 _ _ _ (by omega)]; exact r1
      · rw [mR_sI, mQ_s2 _ _ _ (by omega)]; exact r2
      · rw [mR_sI, mQ_s2 _ _ _ (by omega)]; exact r3
      · intro r q hq
        rw [mR_sI, mQ_s1, hg] at hq
        split at hq
        · exact hty _ _ hq
        · exact hty _ _ hq
      · intro q hq
        rw [mI_s2 _ _ (Or.inl (by omega))]
        exact hn q hq
      · intro q y hq hy
        rw [mI_s2 _ _ (Or.inl (by omega))]
        exact hv q y hq hy
      · intro q hq
        rw [mI_s2 _ _ (Or.inl (by omega))]
        exact hl q hq
      · rw [mI_s1]
        show _ = ((aC A - 1 : Nat) : Int)
        omega
      · rw [mI_s2 _ _ (Or.inr (by omega))]
        exact hf
      · intro r hr
        have hr2 : r < aC A - 1 := hr
        have e : aR (remR A x) r = if r < x then aR A r else aR A (r + 1) := rfl
        rw [e, mR_sI]
        by_cases h3 : r < x
        · obtain ⟨q, g1, g2⟩ := hru r (by omega)
          rw [if_pos h3]
          exact ⟨q, by rw [mQ_s1, hg, if_neg (by omega)]; exact g1, g2.fr hfr (fun q hq => by omega)⟩
        · obtain ⟨q, g1, g2⟩ := hru (r + 1) (by omega)
          rw [if_neg h3]
          exact ⟨q, by rw [mQ_s1, hg, if_pos (by omega)]; exact g1, g2.fr hfr (fun q hq => by omega)⟩
    | succ d ih =>
      intro i g hg h1 h2
      have hq : ∀ v, g (i + 1) = some v → (gK h v).1 = 4 := fun v hv => by
        rw [hg, if_neg (by omega)] at hv
        exact hty _ _ hv
      refine z_run1 tsX6_removeRule [15] 40 ?_
      simp +contextual (disch := omega) only [z_wp_s, z_wp_0, pI_e, pL_e, pO_e, pR_e, p1_I, p1_O, z_gl, z_st1, z_st2, z_nl_I, z_nl_O, z_nl_J, z_nl_L, if_true, if_false, ite_true, ite_false, true_and, and_true, List.mem_cons, List.not_mem_nil, or_false, false_or, or_self, List.length_cons, List.length_nil, InR_t, InL_t, z_ix_t, mI_s1, mI_s2, ↓brT, ↓brF, ↓brT', ↓brF', mL_sI, mR_sI, mK_sI, mS_sI, mI_sL, mL_s1, mL_s2, mR_sL, mK_sL, mS_sL, mI_sR, mL_sR, mR_s1, mR_s2, mK_sR, mS_sR, mA_s1, mA_s2, mL_sA, mR_sA, mK_sA, mS_sA, ix_n, ix_a, ix_m, ix_s, z_sw, z_stop, forall_const, true_implies, false_implies, imp_self, implies_true, not_true_eq_false, not_false_eq_true, ne_eq, eq_self, Option.some.injEq, reduceCtorEq, Nat.reduceAdd, Nat.reduceSub, Nat.reduceMul, Nat.reduceEqDiff, Nat.reduceLT, Nat.reduceLeDiff, Int.reduceAdd, Int.reduceMul, Int.reduceSub, Int.reduceNeg, Int.reduceToNat, Int.reduceLT, Int.reduceLE, Int.reduceEq, ↓reduceIte, List.reverse_cons, Option.toList, List.cons_append, List.nil_append, vI_inj, vL_inj, vO_inj, rI, rL, rO, rV, mI_sQ, mL_sQ, mK_sQ, mS_sQ, mQ_s1, mQ_s2, tlX6_removeRule, o_aald, o_aast, o_aload, o_dup, o_getI, o_getR, o_goto, o_iadd, o_ic, o_icge, o_iclt, o_iflt, o_iinc, o_iload, o_istore, o_isub, o_putI, o_vret, k0, k4, r3, hc, sR_sQ]
      refine ⟨hq, ih (i + 1) _ (fun y => ?_) (by omega) (by omega)⟩
      unfold up
      by_cases hx : y = i
      · rw [if_pos hx, if_pos (by omega), hx, hg, if_neg (by omega)]
      · rw [if_neg hx, hg]
        by_cases h3 : x ≤ y ∧ y < i
        · rw [if_pos h3, if_pos (by omega)]
        · rw [if_neg h3, if_neg (by omega)]
  have h0 := hlo (aC A - 1 - x) x (gR h (a + 4)) (fun x => by rw [if_neg (by omega)]) (by omega) (by omega)
  rw [sQ_self] at h0
  exact h0
