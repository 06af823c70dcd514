/-! the reference: versions, features, the lock, undo, type -/
theorem MI.chg {h h2 : zH} {s : zS} {A' : zA} {hs' : List zA} (hM : MI h s) (f : MF h h2) (hm : MA (gI h2 94) A') (hA : AOK A') (hH : MHi h2 hs') (h4 : gI h2 93 4 = gI h 93 4) (h96 : gI h2 96 = gI h 96) : MI h2 (A', hs', sTx s, sTn s) ∧ MF h h2 := by
  obtain ⟨a1, a2, a3, a4, a5⟩ := hM
  refine ⟨⟨a1.of f.1.K f.2, hm, hH, ?_, hA⟩, f⟩
  obtain ⟨b1, b2, b3, b4⟩ := a4
  exact ⟨h4.trans b1, b2, fun i hi => by rw [h96]; exact b3 i hi, b4⟩
theorem MHi.o {h h2 : zH} {hs : List zA} (hH : MHi h hs) (h1 : gI h2 93 2 = gI h 93 2) (h2' : gI h2 95 = gI h 95) : MHi h2 hs := by
  unfold MHi
  rw [h1, h2']
  exact hH
set_option maxRecDepth 4000 in
set_option maxHeartbeats 4000000 in
theorem sm_puts (l : Launch) (G : zG) (h : zH) (p : Nat) (v : Int) (A : zA) (hS : ShM h) (hm : MA (gI h 94) A) (hA : AOK A) (hp : p < 8) (hvr : InR v) (hfull : aN A p < 4) (lv : Nat) (hlv : 1 ≤ lv) : z_Sp l G mtX8_puts lv 0 0 [vR 93, vI p, vI v] (h) (fun r h' => r = none ∧ Fr (fun c => c = 94) h h' ∧ gR h' = gR h ∧ MA (gI h' 94) (insA A p v)) := by
  obtain ⟨k0, ⟨k94, -⟩, -, ⟨r0, -⟩, -⟩ := hS
  obtain ⟨a1, a2, a3, a4, a5, a6⟩ := hm
  have hn := a1 p hp
  unfold InR at hvr
  refine x_enter [vR 93, vI p, vI v, vJ] (by decide +kernel) (by omega) rfl (Nat.le_of_ble_eq_true rfl) ?_
  generalize hQ : (fun (r : Option zV) (h' : zH) => r = none ∧ Fr (fun c => c = 94) h h' ∧ gR h' = gR h ∧ MA (gI h' 94) (insA A p v)) = QQ
  have hlo : ∀ (k : Nat) (g : Nat → Int), (∀ j, g j = if 4 * p + k < j ∧ j ≤ 4 * p + aN A p then gI h 94 (j - 1) else gI h 94 j) → k ≤ aN A p → insP (aV A p) v (aN A p) = insP (aV A p) v k → z_X l G mtX8_puts lv 0 0 (QQ) 0 0 (sA h 94 g) 10 [vR 93, vI p, vI v, vI k] [] := by
    intro k
    have fin : ∀ (k : Nat) (g : Nat → Int), (∀ j, g j = if 4 * p + k < j ∧ j ≤ 4 * p + aN A p then gI h 94 (j - 1) else gI h 94 j) → k ≤ aN A p → insP (aV A p) v (aN A p) = k → z_X l G mtX8_puts lv 0 0 (QQ) 0 0 (sA h 94 g) 58 [vR 93, vI p, vI v, vI k] [] := by
      intro k g hg hk he
      have e32 : g (32 + p) = (aN A p : Int) := by rw [hg, if_neg (by omega)]; exact hn
      refine z_run1 tsX8_puts [] 40 ?_
      simp (maxSteps := 1000000) -implicitDefEqProofs +contextual (disch := omega) only [z_wp_t, z_wp_u, ↓pI_e, ↓pL_e, ↓pO_e, ↓pR_e, ↓p1_I, ↓p1_O, z_gl, z_st1, z_st2, z_nl_I, z_nl_O, z_nl_J, z_nl_L, if_true, if_false, ite_true, ite_false, true_and, and_true, List.mem_cons, List.not_mem_nil, or_false, false_or, or_self, List.length_cons, List.length_nil, InR_t, InL_t, z_ix_t, mI_s1, mI_s2, ↓brT, ↓brF, ↓brT', ↓brF', mL_sI, mR_sI, mK_sI, mS_sI, mI_sL, mL_s1, mL_s2, mR_sL, mK_sL, mS_sL, mI_sR, mL_sR, mR_s1, mR_s2, mK_sR, mS_sR, mA_s1, mA_s2, mL_sA, mR_sA, mK_sA, mS_sA, ix_n, ix_a, ix_m, ix_s, z_sw, z_stop, forall_const, true_implies, false_implies, imp_self, implies_true, not_true_eq_false, not_false_eq_true, ne_eq, eq_self, Option.some.injEq, reduceCtorEq, Nat.reduceAdd, Nat.reduceSub, Nat.reduceMul, Nat.reduceEqDiff, Nat.reduceLT, Nat.reduceLeDiff, Int.reduceAdd, Int.reduceMul, Int.reduceSub, Int.reduceNeg, Int.reduceToNat, Int.reduceLT, Int.reduceLE, Int.reduceEq, ↓reduceIte, List.reverse_cons, Option.toList, List.cons_append, List.nil_append, vI_inj, vL_inj, vO_inj, rI, rL, rO, rV, mI_sQ, mL_sQ, mK_sQ, mS_sQ, mQ_s1, mQ_s2, iL_and, iL_or, iL_xor, iL_shl, iL_ushr, iR_and, iR_or, iR_xor, iR_shl, iR_shr, iR_ushr, iR_cmp, yc0, tlX8_puts, o_aload, o_dup2, o_getR, o_goto, o_iadd, o_iald, o_iast, o_ic, o_icle, o_ifle, o_iinc, o_iload, o_imul, o_istore, o_isub, o_vret, k0, k94, r0, sI_sA, e32]
      try simp +contextual (disch := omega) only [impF, impT, and_true, true_and, implies_true, not_false_eq_true, not_true_eq_false]
      rw [← hQ]
      have hG : gI (sA h 94 (up (up g (4 * p + k) v) (32 + p) ((aN A p : Int) + 1))) 94 = up (up g (4 * p + k) v) (32 + p) ((aN A p : Int) + 1) := mI_sAs _ _ _
      have hi40 : ∀ x, 40 ≤ x → up (up g (4 * p + k) v) (32 + p) ((aN A p : Int) + 1) x = gI h 94 x := fun x hx => by rw [up_n _ _ (by omega), up_n _ _ (by omega), hg, if_neg (by omega)]
      refine ⟨rfl, Fr.sA _ _ _ _ rfl, rfl, ?_⟩
      rw [hG]
      refine ⟨fun q hq => ?_, fun q i hq hi => ?_, by rw [hi40 _ (by omega)]; exact a3, fun q hq => by rw [hi40 _ (by omega)]; exact a4 q hq, by rw [hi40 _ (by omega)]; exact a5, fun r hr => (a6 r hr).c (fun k hk => hi40 _ (by omega))⟩
      · by_cases e : q = p
        · subst e
          rw [up_s]
          simp [insA, aN, up]
        · rw [up_n _ _ (by omega), up_n _ _ (by omega), hg, if_neg (by omega), a1 q hq]
          simp [insA, aN, up, e]
      · by_cases e : q = p
        · subst e
          have hi2 : i < aN A q + 1 := by simpa [insA, aN, up] using hi
          rw [up_n _ _ (by omega)]
          have e2 : aV (insA A q v) q i = insF (aV A q) k v i := by simp [insA, aV, up, ← he, aN]
          rw [e2]
          unfold insF
          by_cases h1 : i = k
          · subst h1
            rw [up_s, if_neg (by omega), if_pos rfl]
          · rw [up_n _ _ (by omega), hg]
            by_cases h2 : i < k
            · rw [if_pos h2, if_neg (by omega), a2 q i hq (by omega)]
            · rw [if_neg h2, if_neg h1, if_pos (by omega), show 4 * q + i - 1 = 4 * q + (i - 1) by omega, a2 q (i - 1) hq (by omega)]
        · have hi2 : i < aN A q := by simpa [insA, aN, up, e] using hi
          have := hA.1 q hq
          have e2 : aV (insA A p v) q i = aV A q i := by simp [insA, aV, up, e]
          rw [e2, up_n _ _ (by omega), up_n _ _ (by omega), hg, if_neg (by omega), a2 q i hq hi2]
    induction k with
    | zero =>
      intro g hg hk he
      have hf := fin 0 g hg hk he
      refine z_run1 tsX8_puts [58] 30 ?_
      simp (maxSteps := 1000000) -implicitDefEqProofs +contextual (disch := omega) only [z_wp_t, z_wp_u, ↓pI_e, ↓pL_e, ↓pO_e, ↓pR_e, ↓p1_I, ↓p1_O, z_gl, z_st1, z_st2, z_nl_I, z_nl_O, z_nl_J, z_nl_L, if_true, if_false, ite_true, ite_false, true_and, and_true, List.mem_cons, List.not_mem_nil, or_false, false_or, or_self, List.length_cons, List.length_nil, InR_t, InL_t, z_ix_t, mI_s1, mI_s2, ↓brT, ↓brF, ↓brT', ↓brF', mL_sI, mR_sI, mK_sI, mS_sI, mI_sL, mL_s1, mL_s2, mR_sL, mK_sL, mS_sL, mI_sR, mL_sR, mR_s1, mR_s2, mK_sR, mS_sR, mA_s1, mA_s2, mL_sA, mR_sA, mK_sA, mS_sA, ix_n, ix_a, ix_m, ix_s, z_sw, z_stop, forall_const, true_implies, false_implies, imp_self, implies_true, not_true_eq_false, not_false_eq_true, ne_eq, eq_self, Option.some.injEq, reduceCtorEq, Nat.reduceAdd, Nat.reduceSub, Nat.reduceMul, Nat.reduceEqDiff, Nat.reduceLT, Nat.reduceLeDiff, Int.reduceAdd, Int.reduceMul, Int.reduceSub, Int.reduceNeg, Int.reduceToNat, Int.reduceLT, Int.reduceLE, Int.reduceEq, ↓reduceIte, List.reverse_cons, Option.toList, List.cons_append, List.nil_append, vI_inj, vL_inj, vO_inj, rI, rL, rO, rV, mI_sQ, mL_sQ, mK_sQ, mS_sQ, mQ_s1, mQ_s2, iL_and, iL_or, iL_xor, iL_shl, iL_ushr, iR_and, iR_or, iR_xor, iR_shl, iR_shr, iR_ushr, iR_cmp, yc0, tlX8_puts, o_aload, o_dup2, o_getR, o_goto, o_iadd, o_iald, o_iast, o_ic, o_icle, o_ifle, o_iinc, o_iload, o_imul, o_istore, o_isub, o_vret]
      try simp +contextual (disch := omega) only [impF, impT, and_true, true_and, implies_true, not_false_eq_true, not_true_eq_false]
      exact hf
    | succ k ih =>
      intro g hg hk he
      have hvk := a2 p k hp (by omega)
      have hbk := hA.2.1 p k hp (by omega)
      simp only [insP] at he
      have e1 : g (4 * p + (k + 1) - 1) = aV A p k := by rw [hg, if_neg (by omega), show 4 * p + (k + 1) - 1 = 4 * p + k by omega, hvk]
      by_cases hlt : v < aV A p k
      · rw [if_pos hlt] at he
        have hnx := ih (up g (4 * p + (k + 1)) (aV A p k)) (fun j => by
          by_cases e : j = 4 * p + (k + 1)
          · rw [e, up_s, if_pos (by omega), show 4 * p + (k + 1) - 1 = 4 * p + k by omega, hvk]
          · rw [up_n _ _ e, hg]
            by_cases e2 : 4 * p + (k + 1) < j ∧ j ≤ 4 * p + aN A p
            · rw [if_pos e2, if_pos (by omega)]
            · rw [if_neg e2, if_neg (by omega)]) (by omega) he
        refine z_run1 tsX8_puts [10, 58] 40 ?_
        simp (maxSteps := 1000000) -implicitDefEqProofs +contextual (disch := omega) only [z_wp_t, z_wp_u, ↓pI_e, ↓pL_e, ↓pO_e, ↓pR_e, ↓p1_I, ↓p1_O, z_gl, z_st1, z_st2, z_nl_I, z_nl_O, z_nl_J, z_nl_L, if_true, if_false, ite_true, ite_false, true_and, and_true, List.mem_cons, List.not_mem_nil, or_false, false_or, or_self, List.length_cons, List.length_nil, InR_t, InL_t, z_ix_t, mI_s1, mI_s2, ↓brT, ↓brF, ↓brT', ↓brF', mL_sI, mR_sI, mK_sI, mS_sI, mI_sL, mL_s1, mL_s2, mR_sL, mK_sL, mS_sL, mI_sR, mL_sR, mR_s1, mR_s2, mK_sR, mS_sR, mA_s1, mA_s2, mL_sA, mR_sA, mK_sA, mS_sA, ix_n, ix_a, ix_m, ix_s, z_sw, z_stop, forall_const, true_implies, false_implies, imp_self, implies_true, not_true_eq_false, not_false_eq_true, ne_eq, eq_self, Option.some.injEq, reduceCtorEq, Nat.reduceAdd, Nat.reduceSub, Nat.reduceMul, Nat.reduceEqDiff, Nat.reduceLT, Nat.reduceLeDiff, Int.reduceAdd, Int.reduceMul, Int.reduceSub, Int.reduceNeg, Int.reduceToNat, Int.reduceLT, Int.reduceLE, Int.reduceEq, ↓reduceIte, List.reverse_cons, Option.toList, List.cons_append, List.nil_append, vI_inj, vL_inj, vO_inj, rI, rL, rO, rV, mI_sQ, mL_sQ, mK_sQ, mS_sQ, mQ_s1, mQ_s2, iL_and, iL_or, iL_xor, iL_shl, iL_ushr, iR_and, iR_or, iR_xor, iR_shl, iR_shr, iR_ushr, iR_cmp, yc0, tlX8_puts, o_aload, o_dup2, o_getR, o_goto, o_iadd, o_iald, o_iast, o_ic, o_icle, o_ifle, o_iinc, o_iload, o_imul, o_istore, o_isub, o_vret, k0, k94, r0, e1, sI_sA]
        try simp +contextual (disch := omega) only [impF, impT, and_true, true_and, implies_true, not_false_eq_true, not_true_eq_false]
        rw [show ((k + 1 : Nat) : Int) + -1 = (k : Int) by omega]
        exact hnx
      · rw [if_neg hlt] at he
        have hf := fin (k + 1) g hg hk he
        refine z_run1 tsX8_puts [58] 40 ?_
        simp (maxSteps := 1000000) -implicitDefEqProofs +contextual (disch := omega) only [z_wp_t, z_wp_u, ↓pI_e, ↓pL_e, ↓pO_e, ↓pR_e, ↓p1_I, ↓p1_O, z_gl, z_st1, z_st2, z_nl_I, z_nl_O, z_nl_J, z_nl_L, if_true, if_false, ite_true, ite_false, true_and, and_true, List.mem_cons, List.not_mem_nil, or_false, false_or, or_self, List.length_cons, List.length_nil, InR_t, InL_t, z_ix_t, mI_s1, mI_s2, ↓brT, ↓brF, ↓brT', ↓brF', mL_sI, mR_sI, mK_sI, mS_sI, mI_sL, mL_s1, mL_s2, mR_sL, mK_sL, mS_sL, mI_sR, mL_sR, mR_s1, mR_s2, mK_sR, mS_sR, mA_s1, mA_s2, mL_sA, mR_sA, mK_sA, mS_sA, ix_n, ix_a, ix_m, ix_s, z_sw, z_stop, forall_const, true_implies, false_implies, imp_self, implies_true, not_true_eq_false, not_false_eq_true, ne_eq, eq_self, Option.some.injEq, reduceCtorEq, Nat.reduceAdd, Nat.reduceSub, Nat.reduceMul, Nat.reduceEqDiff, Nat.reduceLT, Nat.reduceLeDiff, Int.reduceAdd, Int.reduceMul, Int.reduceSub, Int.reduceNeg, Int.reduceToNat, Int.reduceLT, Int.reduceLE, Int.reduceEq, ↓reduceIte, List.reverse_cons, Option.toList, List.cons_append, List.nil_append, vI_inj, vL_inj, vO_inj, rI, rL, rO, rV, mI_sQ, mL_sQ, mK_sQ, mS_sQ, mQ_s1, mQ_s2, iL_and, iL_or, iL_xor, iL_shl, iL_ushr, iR_and, iR_or, iR_xor, iR_shl, iR_shr, iR_ushr, iR_cmp, yc0, tlX8_puts, o_aload, o_dup2, o_getR, o_goto, o_iadd, o_iald, o_iast, o_ic, o_icle, o_ifle, o_iinc, o_iload, o_imul, o_istore, o_isub, o_vret, k0, k94, r0, e1]
        try simp +contextual (disch := omega) only [impF, impT, and_true, true_and, implies_true, not_false_eq_true, not_true_eq_false]
        exact hf
  have h0 := hlo (aN A p) (gI h 94) (fun j => by rw [if_neg (by omega)]) (Nat.le_refl _) rfl
  rw [sA_self] at h0
  refine z_run1 tsX8_puts [10] 30 ?_
  simp (maxSteps := 1000000) -implicitDefEqProofs +contextual (disch := omega) only [z_wp_t, z_wp_u, ↓pI_e, ↓pL_e, ↓pO_e, ↓pR_e, ↓p1_I, ↓p1_O, z_gl, z_st1, z_st2, z_nl_I, z_nl_O, z_nl_J, z_nl_L, if_true, if_false, ite_true, ite_false, true_and, and_true, List.mem_cons, List.not_mem_nil, or_false, false_or, or_self, List.length_cons, List.length_nil, InR_t, InL_t, z_ix_t, mI_s1, mI_s2, ↓brT, ↓brF, ↓brT', ↓brF', mL_sI, mR_sI, mK_sI, mS_sI, mI_sL, mL_s1, mL_s2, mR_sL, mK_sL, mS_sL, mI_sR, mL_sR, mR_s1, mR_s2, mK_sR, mS_sR, mA_s1, mA_s2, mL_sA, mR_sA, mK_sA, mS_sA, ix_n, ix_a, ix_m, ix_s, z_sw, z_stop, forall_const, true_implies, false_implies, imp_self, implies_true, not_true_eq_false, not_false_eq_true, ne_eq, eq_self, Option.some.injEq, reduceCtorEq, Nat.reduceAdd, Nat.reduceSub, Nat.reduceMul, Nat.reduceEqDiff, Nat.reduceLT, Nat.reduceLeDiff, Int.reduceAdd, Int.reduceMul, Int.reduceSub, Int.reduceNeg, Int.reduceToNat, Int.reduceLT, Int.reduceLE, Int.reduceEq, ↓reduceIte, List.reverse_cons, Option.toList, List.cons_append, List.nil_append, vI_inj, vL_inj, vO_inj, rI, rL, rO, rV, mI_sQ, mL_sQ, mK_sQ, mS_sQ, mQ_s1, mQ_s2, iL_and, iL_or, iL_xor, iL_shl, iL_ushr, iR_and, iR_or, iR_xor, iR_shl, iR_shr, iR_ushr, iR_cmp, yc0, tlX8_puts, o_aload, o_dup2, o_getR, o_goto, o_iadd, o_iald, o_iast, o_ic, o_icle, o_ifle, o_iinc, o_iload, o_imul, o_istore, o_isub, o_vret, k0, k94, r0, hn]
  try simp +contextual (disch := omega) only [impF, impT, and_true, true_and, implies_true, not_false_eq_true, not_true_eq_false]
  exact h0
set_option maxRecDepth 4000 in
set_option maxHeartbeats 4000000 in
theorem sm_takes (l : Launch) (G : zG) (h : zH) (p x : Nat) (A : zA) (hS : ShM h) (hm : MA (gI h 94) A) (hA : AOK A) (hp : p < 8) (hx : x < aN A p) (lv : Nat) (hlv : 1 ≤ lv) : z_Sp l G mtX8_takes lv 0 0 [vR 93, vI p, vI x] (h) (fun r h' => r = none ∧ Fr (fun c => c = 94) h h' ∧ gR h' = gR h ∧ MA (gI h' 94) (remA A p x)) := by
  obtain ⟨k0, ⟨k94, -⟩, -, ⟨r0, -⟩, -⟩ := hS
  obtain ⟨a1, a2, a3, a4, a5, a6⟩ := hm
  have hn := a1 p hp
  have h4 := hA.1 p hp
  refine x_enter [vR 93, vI p, vI x, vJ] (by decide +kernel) (by omega) rfl (Nat.le_of_ble_eq_true rfl) ?_
  generalize hQ : (fun (r : Option zV) (h' : zH) => r = none ∧ Fr (fun c => c = 94) h h' ∧ gR h' = gR h ∧ MA (gI h' 94) (remA A p x)) = QQ
  have hlo : ∀ (d i : Nat) (g : Nat → Int), i + d + 1 = aN A p → x ≤ i → (∀ j, g j = if j = 32 + p then (aN A p : Int) - 1 else if 4 * p + x ≤ j ∧ j < 4 * p + i then gI h 94 (j + 1) else gI h 94 j) → z_X l G mtX8_takes lv 0 0 (QQ) 0 0 (sA h 94 g) 15 [vR 93, vI p, vI x, vI i] [] := by
    intro d
    induction d with
    | zero =>
      intro i g hi hxi hg
      have e32 : g (32 + p) = (aN A p : Int) - 1 := by rw [hg, if_pos rfl]
      refine z_run1 tsX8_takes [] 40 ?_
      simp (maxSteps := 1000000) -implicitDefEqProofs +contextual (disch := omega) only [z_wp_t, z_wp_u, ↓pI_e, ↓pL_e, ↓pO_e, ↓pR_e, ↓p1_I, ↓p1_O, z_gl, z_st1, z_st2, z_nl_I, z_nl_O, z_nl_J, z_nl_L, if_true, if_false, ite_true, ite_false, true_and, and_true, List.mem_cons, List.not_mem_nil, or_false, false_or, or_self, List.length_cons, List.length_nil, InR_t, InL_t, z_ix_t, mI_s1, mI_s2, ↓brT, ↓brF, ↓brT', ↓brF', mL_sI, mR_sI, mK_sI, mS_sI, mI_sL, mL_s1, mL_s2, mR_sL, mK_sL, mS_sL, mI_sR, mL_sR, mR_s1, mR_s2, mK_sR, mS_sR, mA_s1, mA_s2, mL_sA, mR_sA, mK_sA, mS_sA, ix_n, ix_a, ix_m, ix_s, z_sw, z_stop, forall_const, true_implies, false_implies, imp_self, implies_true, not_true_eq_false, not_false_eq_true, ne_eq, eq_self, Option.some.injEq, reduceCtorEq, Nat.reduceAdd, Nat.reduceSub, Nat.reduceMul, Nat.reduceEqDiff, Nat.reduceLT, Nat.reduceLeDiff, Int.reduceAdd, Int.reduceMul, Int.reduceSub, Int.reduceNeg, Int.reduceToNat, Int.reduceLT, Int.reduceLE, Int.reduceEq, ↓reduceIte, List.reverse_cons, Option.toList, List.cons_append, List.nil_append, vI_inj, vL_inj, vO_inj, rI, rL, rO, rV, mI_sQ, mL_sQ, mK_sQ, mS_sQ, mQ_s1, mQ_s2, iL_and, iL_or, iL_xor, iL_shl, iL_ushr, iR_and, iR_or, iR_xor, iR_shl, iR_shr, iR_ushr, iR_cmp, yc0, tlX8_takes, o_aload, o_dup2, o_getR, o_goto, o_iadd, o_iald, o_iast, o_ic, o_icge, o_iinc, o_iload, o_imul, o_istore, o_isub, o_vret, k0, k94, r0, e32]
      try simp +contextual (disch := omega) only [impF, impT, and_true, true_and, implies_true, not_false_eq_true, not_true_eq_false]
      rw [← hQ]
      have hG : gI (sA h 94 g) 94 = g := mI_sAs _ _ _
      have hi40 : ∀ y, 40 ≤ y → g y = gI h 94 y := fun y hy => by rw [hg, if_neg (by omega), if_neg (by omega)]
      refine ⟨rfl, Fr.sA _ _ _ _ rfl, rfl, ?_⟩
      rw [hG]
      refine ⟨fun q hq => ?_, fun q y hq hy => ?_, by rw [hi40 _ (by omega)]; exact a3, fun q hq => by rw [hi40 _ (by omega)]; exact a4 q hq, by rw [hi40 _ (by omega)]; exact a5, fun r hr => (a6 r hr).c (fun k hk => hi40 _ (by omega))⟩
      · by_cases e : q = p
        · subst e
          rw [e32]
          simp [remA, aN, up]
          unfold aN at hi
          omega
        · rw [hg, if_neg (by omega), if_neg (by omega), a1 q hq]
          simp [remA, aN, up, e]
      · by_cases e : q = p
        · subst e
          have hy2 : y < aN A q - 1 := by simpa [remA, aN, up] using hy
          have e2 : aV (remA A q x) q y = remF (aV A q) x y := by simp [remA, aV, up]
          rw [e2, hg, if_neg (by omega)]
          unfold remF
          by_cases h1 : y < x
          · rw [if_pos h1, if_neg (by omega), a2 q y hq (by omega)]
          · rw [if_neg h1, if_pos (by omega), show 4 * q + y + 1 = 4 * q + (y + 1) by omega, a2 q (y + 1) hq (by omega)]
        · have hy2 : y < aN A q := by simpa [remA, aN, up, e] using hy
          have := hA.1 q hq
          have e2 : aV (remA A p x) q y = aV A q y := by simp [remA, aV, up, e]
          rw [e2, hg, if_neg (by omega), if_neg (by omega), a2 q y hq hy2]
    | succ d ih =>
      intro i g hi hxi hg
      have e32 : g (32 + p) = (aN A p : Int) - 1 := by rw [hg, if_pos rfl]
      have e1 : g (4 * p + i + 1) = gI h 94 (4 * p + i + 1) := by rw [hg, if_neg (by omega), if_neg (by omega)]
      have hnx := ih (i + 1) (up g (4 * p + i) (gI h 94 (4 * p + i + 1))) (by omega) (by omega) (fun j => by
        by_cases e : j = 4 * p + i
        · rw [e, up_s, if_neg (by omega), if_pos (by omega)]
        · rw [up_n _ _ e, hg]
          by_cases e0 : j = 32 + p
          · rw [if_pos e0, if_pos e0]
          · rw [if_neg e0, if_neg e0]
            by_cases e2 : 4 * p + x ≤ j ∧ j < 4 * p + i
            · rw [if_pos e2, if_pos (by omega)]
            · rw [if_neg e2, if_neg (by omega)])
      refine z_run1 tsX8_takes [15] 40 ?_
      simp (maxSteps := 1000000) -implicitDefEqProofs +contextual (disch := omega) only [z_wp_t, z_wp_u, ↓pI_e, ↓pL_e, ↓pO_e, ↓pR_e, ↓p1_I, ↓p1_O, z_gl, z_st1, z_st2, z_nl_I, z_nl_O, z_nl_J, z_nl_L, if_true, if_false, ite_true, ite_false, true_and, and_true, List.mem_cons, List.not_mem_nil, or_false, false_or, or_self, List.length_cons, List.length_nil, InR_t, InL_t, z_ix_t, mI_s1, mI_s2, ↓brT, ↓brF, ↓brT', ↓brF', mL_sI, mR_sI, mK_sI, mS_sI, mI_sL, mL_s1, mL_s2, mR_sL, mK_sL, mS_sL, mI_sR, mL_sR, mR_s1, mR_s2, mK_sR, mS_sR, mA_s1, mA_s2, mL_sA, mR_sA, mK_sA, mS_sA, ix_n, ix_a, ix_m, ix_s, z_sw, z_stop, forall_const, true_implies, false_implies, imp_self, implies_true, not_true_eq_false, not_false_eq_true, ne_eq, eq_self, Option.some.injEq, reduceCtorEq, Nat.reduceAdd, Nat.reduceSub, Nat.reduceMul, Nat.reduceEqDiff, Nat.reduceLT, Nat.reduceLeDiff, Int.reduceAdd, Int.reduceMul, Int.reduceSub, Int.reduceNeg, Int.reduceToNat, Int.reduceLT, Int.reduceLE, Int.reduceEq, ↓reduceIte, List.reverse_cons, Option.toList, List.cons_append, List.nil_append, vI_inj, vL_inj, vO_inj, rI, rL, rO, rV, mI_sQ, mL_sQ, mK_sQ, mS_sQ, mQ_s1, mQ_s2, iL_and, iL_or, iL_xor, iL_shl, iL_ushr, iR_and, iR_or, iR_xor, iR_shl, iR_shr, iR_ushr, iR_cmp, yc0, tlX8_takes, o_aload, o_dup2, o_getR, o_goto, o_iadd, o_iald, o_iast, o_ic, o_icge, o_iinc, o_iload, o_imul, o_istore, o_isub, o_vret, k0, k94, r0, e32, e1, sI_sA]
      try simp +contextual (disch := omega) only [impF, impT, and_true, true_and, implies_true, not_false_eq_true, not_true_eq_false]
      exact hnx
  have h0 := hlo (aN A p - 1 - x) x (up (gI h 94) (32 + p) ((aN A p : Int) - 1)) (by omega) (Nat.le_refl _) (fun j => by
    by_cases e : j = 32 + p
    · rw [e, up_s, if_pos rfl]
    · rw [up_n _ _ e, if_neg e, if_neg (by omega)])
  rw [← sI_eq] at h0
  refine z_run1 tsX8_takes [15] 30 ?_
  simp (maxSteps := 1000000) -implicitDefEqProofs +contextual (disch := omega) only [z_wp_t, z_wp_u, ↓pI_e, ↓pL_e, ↓pO_e, ↓pR_e, ↓p1_I, ↓p1_O, z_gl, z_st1, z_st2, z_nl_I, z_nl_O, z_nl_J, z_nl_L, if_true, if_false, ite_true, ite_false, true_and, and_true, List.mem_cons, List.not_mem_nil, or_false, false_or, or_self, List.length_cons, List.length_nil, InR_t, InL_t, z_ix_t, mI_s1, mI_s2, ↓brT, ↓brF, ↓brT', ↓brF', mL_sI, mR_sI, mK_sI, mS_sI, mI_sL, mL_s1, mL_s2, mR_sL, mK_sL, mS_sL, mI_sR, mL_sR, mR_s1, mR_s2, mK_sR, mS_sR, mA_s1, mA_s2, mL_sA, mR_sA, mK_sA, mS_sA, ix_n, ix_a, ix_m, ix_s, z_sw, z_stop, forall_const, true_implies, false_implies, imp_self, implies_true, not_true_eq_false, not_false_eq_true, ne_eq, eq_self, Option.some.injEq, reduceCtorEq, Nat.reduceAdd, Nat.reduceSub, Nat.reduceMul, Nat.reduceEqDiff, Nat.reduceLT, Nat.reduceLeDiff, Int.reduceAdd, Int.reduceMul, Int.reduceSub, Int.reduceNeg, Int.reduceToNat, Int.reduceLT, Int.reduceLE, Int.reduceEq, ↓reduceIte, List.reverse_cons, Option.toList, List.cons_append, List.nil_append, vI_inj, vL_inj, vO_inj, rI, rL, rO, rV, mI_sQ, mL_sQ, mK_sQ, mS_sQ, mQ_s1, mQ_s2, iL_and, iL_or, iL_xor, iL_shl, iL_ushr, iR_and, iR_or, iR_xor, iR_shl, iR_shr, iR_ushr, iR_cmp, yc0, tlX8_takes, o_aload, o_dup2, o_getR, o_goto, o_iadd, o_iald, o_iast, o_ic, o_icge, o_iinc, o_iload, o_imul, o_istore, o_isub, o_vret, k0, k94, r0, hn]
  try simp +contextual (disch := omega) only [impF, impT, and_true, true_and, implies_true, not_false_eq_true, not_true_eq_false]
  exact h0
set_option maxRecDepth 4000 in
set_option maxHeartbeats 4000000 in
theorem sm_publish (l : Launch) (G : zG) (h : zH) (s : zS) (p v : Int) (hM : MI h s) (hp : InR p) (hv : InR v) (lv : Nat) (hlv : 3 ≤ lv) : z_Sp l G mtX8_publish lv 0 0 [vR 93, vI p, vI v] (h) (mQ h (fPublish s p v)) := by
  refine x_enter [vR 93, vI p, vI v] (by decide +kernel) (by omega) rfl (Nat.le_of_ble_eq_true rfl) ?_
  generalize hQ : mQ h (fPublish s p v) = QQ
  have hM0 := hM
  obtain ⟨hS, hm, hH, hT, hA⟩ := hM
  have hS0 := hS
  obtain ⟨k0, ⟨k94, -⟩, -, ⟨r0, -⟩, -⟩ := hS
  refine z_run1 tsX8_publish [] 20 ?_
  simp (maxSteps := 1000000) -implicitDefEqProofs +contextual (disch := omega) only [z_wp_t, z_wp_u, ↓pI_e, ↓pL_e, ↓pO_e, ↓pR_e, ↓p1_I, ↓p1_O, z_gl, z_st1, z_st2, z_nl_I, z_nl_O, z_nl_J, z_nl_L, if_true, if_false, ite_true, ite_false, true_and, and_true, List.mem_cons, List.not_mem_nil, or_false, false_or, or_self, List.length_cons, List.length_nil, InR_t, InL_t, z_ix_t, mI_s1, mI_s2, ↓brT, ↓brF, ↓brT', ↓brF', mL_sI, mR_sI, mK_sI, mS_sI, mI_sL, mL_s1, mL_s2, mR_sL, mK_sL, mS_sL, mI_sR, mL_sR, mR_s1, mR_s2, mK_sR, mS_sR, mA_s1, mA_s2, mL_sA, mR_sA, mK_sA, mS_sA, ix_n, ix_a, ix_m, ix_s, z_sw, z_stop, forall_const, true_implies, false_implies, imp_self, implies_true, not_true_eq_false, not_false_eq_true, ne_eq, eq_self, Option.some.injEq, reduceCtorEq, Nat.reduceAdd, Nat.reduceSub, Nat.reduceMul, Nat.reduceEqDiff, Nat.reduceLT, Nat.reduceLeDiff, Int.reduceAdd, Int.reduceMul, Int.reduceSub, Int.reduceNeg, Int.reduceToNat, Int.reduceLT, Int.reduceLE, Int.reduceEq, ↓reduceIte, List.reverse_cons, Option.toList, List.cons_append, List.nil_append, vI_inj, vL_inj, vO_inj, rI, rL, rO, rV, mI_sQ, mL_sQ, mK_sQ, mS_sQ, mQ_s1, mQ_s2, iL_and, iL_or, iL_xor, iL_shl, iL_ushr, iR_and, iR_or, iR_xor, iR_shl, iR_shr, iR_ushr, iR_cmp, yc0, tlX8_publish, tkX8_publish, o_aload, o_getR, o_iadd, o_iald, o_ic, o_iceq, o_icne, o_ifeq, o_ifne, o_iload, o_iret]
  try simp +contextual (disch := omega) only [impF, impT, and_true, true_and, implies_true, not_false_eq_true, not_true_eq_false]
  refine x_callS (by decide +kernel) cv_X8_64 (sm_isPack l G h p hp 2 (by omega)) (by omega) rfl (by omega) (by omega) rfl (Nat.le_of_ble_eq_true rfl) ?_
  rintro r h' ⟨rfl, hE⟩
  subst h'
  cases hop : okP p
  · simp only [Bool.false_eq_true, if_false]
    refine z_run1 tsX8_publish [] 20 ?_
    simp (maxSteps := 1000000) -implicitDefEqProofs +contextual (disch := omega) only [z_wp_t, z_wp_u, ↓pI_e, ↓pL_e, ↓pO_e, ↓pR_e, ↓p1_I, ↓p1_O, z_gl, z_st1, z_st2, z_nl_I, z_nl_O, z_nl_J, z_nl_L, if_true, if_false, ite_true, ite_false, true_and, and_true, List.mem_cons, List.not_mem_nil, or_false, false_or, or_self, List.length_cons, List.length_nil, InR_t, InL_t, z_ix_t, mI_s1, mI_s2, ↓brT, ↓brF, ↓brT', ↓brF', mL_sI, mR_sI, mK_sI, mS_sI, mI_sL, mL_s1, mL_s2, mR_sL, mK_sL, mS_sL, mI_sR, mL_sR, mR_s1, mR_s2, mK_sR, mS_sR, mA_s1, mA_s2, mL_sA, mR_sA, mK_sA, mS_sA, ix_n, ix_a, ix_m, ix_s, z_sw, z_stop, forall_const, true_implies, false_implies, imp_self, implies_true, not_true_eq_false, not_false_eq_true, ne_eq, eq_self, Option.some.injEq, reduceCtorEq, Nat.reduceAdd, Nat.reduceSub, Nat.reduceMul, Nat.reduceEqDiff, Nat.reduceLT, Nat.reduceLeDiff, Int.reduceAdd, Int.reduceMul, Int.reduceSub, Int.reduceNeg, Int.reduceToNat, Int.reduceLT, Int.reduceLE, Int.reduceEq, ↓reduceIte, List.reverse_cons, Option.toList, List.cons_append, List.nil_append, vI_inj, vL_inj, vO_inj, rI, rL, rO, rV, mI_sQ, mL_sQ, mK_sQ, mS_sQ, mQ_s1, mQ_s2, iL_and, iL_or, iL_xor, iL_shl, iL_ushr, iR_and, iR_or, iR_xor, iR_shl, iR_shr, iR_ushr, iR_cmp, yc0, tlX8_publish, tkX8_publish, o_aload, o_getR, o_iadd, o_iald, o_ic, o_iceq, o_icne, o_ifeq, o_ifne, o_iload, o_iret]
    try simp +contextual (disch := omega) only [impF, impT, and_true, true_and, implies_true, not_false_eq_true, not_true_eq_false]
    rw [← hQ, fPublish, hop]
    exact ⟨rfl, hM0, MF.rf⟩
  · simp only [if_true]
    refine z_run1 tsX8_publish [] 20 ?_
    simp (maxSteps := 1000000) -implicitDefEqProofs +contextual (disch := omega) only [z_wp_t, z_wp_u, ↓pI_e, ↓pL_e, ↓pO_e, ↓pR_e, ↓p1_I, ↓p1_O, z_gl, z_st1, z_st2, z_nl_I, z_nl_O, z_nl_J, z_nl_L, if_true, if_false, ite_true, ite_false, true_and, and_true, List.mem_cons, List.not_mem_nil, or_false, false_or, or_self, List.length_cons, List.length_nil, InR_t, InL_t, z_ix_t, mI_s1, mI_s2, ↓brT, ↓brF, ↓brT', ↓brF', mL_sI, mR_sI, mK_sI, mS_sI, mI_sL, mL_s1, mL_s2, mR_sL, mK_sL, mS_sL, mI_sR, mL_sR, mR_s1, mR_s2, mK_sR, mS_sR, mA_s1, mA_s2, mL_sA, mR_sA, mK_sA, mS_sA, ix_n, ix_a, ix_m, ix_s, z_sw, z_stop, forall_const, true_implies, false_implies, imp_self, implies_true, not_true_eq_false, not_false_eq_true, ne_eq, eq_self, Option.some.injEq, reduceCtorEq, Nat.reduceAdd, Nat.reduceSub, Nat.reduceMul, Nat.reduceEqDiff, Nat.reduceLT, Nat.reduceLeDiff, Int.reduceAdd, Int.reduceMul, Int.reduceSub, Int.reduceNeg, Int.reduceToNat, Int.reduceLT, Int.reduceLE, Int.reduceEq, ↓reduceIte, List.reverse_cons, Option.toList, List.cons_append, List.nil_append, vI_inj, vL_inj, vO_inj, rI, rL, rO, rV, mI_sQ, mL_sQ, mK_sQ, mS_sQ, mQ_s1, mQ_s2, iL_and, iL_or, iL_xor, iL_shl, iL_ushr, iR_and, iR_or, iR_xor, iR_shl, iR_shr, iR_ushr, iR_cmp, yc0, tlX8_publish, tkX8_publish, o_aload, o_getR, o_iadd, o_iald, o_ic, o_iceq, o_icne, o_ifeq, o_ifne, o_iload, o_iret]
    try simp +contextual (disch := omega) only [impF, impT, and_true, true_and, implies_true, not_false_eq_true, not_true_eq_false]
    refine x_callS (by decide +kernel) cv_X8_68 (sm_isVersion l G h v hv 2 (by omega)) (by omega) rfl (by omega) (by omega) rfl (Nat.le_of_ble_eq_true rfl) ?_
    rintro r h' ⟨rfl, hE⟩
    subst h'
    cases hov : okV v
    · simp only [Bool.false_eq_true, if_false]
      refine z_run1 tsX8_publish [] 20 ?_
      simp (maxSteps := 1000000) -implicitDefEqProofs +contextual (disch := omega) only [z_wp_t, z_wp_u, ↓pI_e, ↓pL_e, ↓pO_e, ↓pR_e, ↓p1_I, ↓p1_O, z_gl, z_st1, z_st2, z_nl_I, z_nl_O, z_nl_J, z_nl_L, if_true, if_false, ite_true, ite_false, true_and, and_true, List.mem_cons, List.not_mem_nil, or_false, false_or, or_self, List.length_cons, List.length_nil, InR_t, InL_t, z_ix_t, mI_s1, mI_s2, ↓brT, ↓brF, ↓brT', ↓brF', mL_sI, mR_sI, mK_sI, mS_sI, mI_sL, mL_s1, mL_s2, mR_sL, mK_sL, mS_sL, mI_sR, mL_sR, mR_s1, mR_s2, mK_sR, mS_sR, mA_s1, mA_s2, mL_sA, mR_sA, mK_sA, mS_sA, ix_n, ix_a, ix_m, ix_s, z_sw, z_stop, forall_const, true_implies, false_implies, imp_self, implies_true, not_true_eq_false, not_false_eq_true, ne_eq, eq_self, Option.some.injEq, reduceCtorEq, Nat.reduceAdd, Nat.reduceSub, Nat.reduceMul, Nat.reduceEqDiff, Nat.reduceLT, Nat.reduceLeDiff, Int.reduceAdd, Int.reduceMul, Int.reduceSub, Int.reduceNeg, Int.reduceToNat, Int.reduceLT, Int.reduceLE, Int.reduceEq, ↓reduceIte, List.reverse_cons, Option.toList, List.cons_append, List.nil_append, vI_inj, vL_inj, vO_inj, rI, rL, rO, rV, mI_sQ, mL_sQ, mK_sQ, mS_sQ, mQ_s1, mQ_s2, iL_and, iL_or, iL_xor, iL_shl, iL_ushr, iR_and, iR_or, iR_xor, iR_shl, iR_shr, iR_ushr, iR_cmp, yc0, tlX8_publish, tkX8_publish, o_aload, o_getR, o_iadd, o_iald, o_ic, o_iceq, o_icne, o_ifeq, o_ifne, o_iload, o_iret]
      try simp +contextual (disch := omega) only [impF, impT, and_true, true_and, implies_true, not_false_eq_true, not_true_eq_false]
      rw [← hQ, fPublish, hop, hov]
      exact ⟨rfl, hM0, MF.rf⟩
    · simp only [if_true]
      have hp2 := okP_t hop
      have hv2 := okV_t hov
      obtain ⟨P, rfl⟩ := Int.eq_ofNat_of_zero_le hp2.1
      have hP : P < 8 := by omega
      have h4 := hA.1 P hP
      have hn := hm.1 P hP
      rw [fPublish, hop, hov, Int.toNat_natCast] at hQ
      simp only [Bool.and_self, if_true] at hQ
      refine z_run1 tsX8_publish [] 20 ?_
      simp (maxSteps := 1000000) -implicitDefEqProofs +contextual (disch := omega) only [z_wp_t, z_wp_u, ↓pI_e, ↓pL_e, ↓pO_e, ↓pR_e, ↓p1_I, ↓p1_O, z_gl, z_st1, z_st2, z_nl_I, z_nl_O, z_nl_J, z_nl_L, if_true, if_false, ite_true, ite_false, true_and, and_true, List.mem_cons, List.not_mem_nil, or_false, false_or, or_self, List.length_cons, List.length_nil, InR_t, InL_t, z_ix_t, mI_s1, mI_s2, ↓brT, ↓brF, ↓brT', ↓brF', mL_sI, mR_sI, mK_sI, mS_sI, mI_sL, mL_s1, mL_s2, mR_sL, mK_sL, mS_sL, mI_sR, mL_sR, mR_s1, mR_s2, mK_sR, mS_sR, mA_s1, mA_s2, mL_sA, mR_sA, mK_sA, mS_sA, ix_n, ix_a, ix_m, ix_s, z_sw, z_stop, forall_const, true_implies, false_implies, imp_self, implies_true, not_true_eq_false, not_false_eq_true, ne_eq, eq_self, Option.some.injEq, reduceCtorEq, Nat.reduceAdd, Nat.reduceSub, Nat.reduceMul, Nat.reduceEqDiff, Nat.reduceLT, Nat.reduceLeDiff, Int.reduceAdd, Int.reduceMul, Int.reduceSub, Int.reduceNeg, Int.reduceToNat, Int.reduceLT, Int.reduceLE, Int.reduceEq, ↓reduceIte, List.reverse_cons, Option.toList, List.cons_append, List.nil_append, vI_inj, vL_inj, vO_inj, rI, rL, rO, rV, mI_sQ, mL_sQ, mK_sQ, mS_sQ, mQ_s1, mQ_s2, iL_and, iL_or, iL_xor, iL_shl, iL_ushr, iR_and, iR_or, iR_xor, iR_shl, iR_shr, iR_ushr, iR_cmp, yc0, tlX8_publish, tkX8_publish, o_aload, o_getR, o_iadd, o_iald, o_ic, o_iceq, o_icne, o_ifeq, o_ifne, o_iload, o_iret]
      try simp +contextual (disch := omega) only [impF, impT, and_true, true_and, implies_true, not_false_eq_true, not_true_eq_false]
      refine x_callV (by decide +kernel) cv_X8_71 (sm_indexOf l G h P v (sW s) hS0 hm hA hP hv 1 (by omega)) k0 (by omega) rfl (by omega) (by omega) rfl (Nat.le_of_ble_eq_true rfl) ?_
      rintro r h' ⟨rfl, hE⟩
      subst h'
      have hfr : -1 ≤ fIx (aV (sW s) P) v (aN (sW s) P) 0 ∧ fIx (aV (sW s) P) v (aN (sW s) P) 0 ≤ 4 := by
        by_cases e : fIx (aV (sW s) P) v (aN (sW s) P) 0 = -1
        · omega
        · have := fIx_some rfl e; omega
      by_cases hf : fIx (aV (sW s) P) v (aN (sW s) P) 0 = -1
      · rw [if_neg (fun q => q hf)] at hQ
        rw [hf]
        by_cases h44 : 4 ≤ aN (sW s) P
        · rw [if_pos h44] at hQ
          have hn4 : gI h 94 (32 + P) = 4 := by rw [hn]; omega
          refine z_run1 tsX8_publish [] 20 ?_
          simp (maxSteps := 1000000) -implicitDefEqProofs +contextual (disch := omega) only [z_wp_t, z_wp_u, ↓pI_e, ↓pL_e, ↓pO_e, ↓pR_e, ↓p1_I, ↓p1_O, z_gl, z_st1, z_st2, z_nl_I, z_nl_O, z_nl_J, z_nl_L, if_true, if_false, ite_true, ite_false, true_and, and_true, List.mem_cons, List.not_mem_nil, or_false, false_or, or_self, List.length_cons, List.length_nil, InR_t, InL_t, z_ix_t, mI_s1, mI_s2, ↓brT, ↓brF, ↓brT', ↓brF', mL_sI, mR_sI, mK_sI, mS_sI, mI_sL, mL_s1, mL_s2, mR_sL, mK_sL, mS_sL, mI_sR, mL_sR, mR_s1, mR_s2, mK_sR, mS_sR, mA_s1, mA_s2, mL_sA, mR_sA, mK_sA, mS_sA, ix_n, ix_a, ix_m, ix_s, z_sw, z_stop, forall_const, true_implies, false_implies, imp_self, implies_true, not_true_eq_false, not_false_eq_true, ne_eq, eq_self, Option.some.injEq, reduceCtorEq, Nat.reduceAdd, Nat.reduceSub, Nat.reduceMul, Nat.reduceEqDiff, Nat.reduceLT, Nat.reduceLeDiff, Int.reduceAdd, Int.reduceMul, Int.reduceSub, Int.reduceNeg, Int.reduceToNat, Int.reduceLT, Int.reduceLE, Int.reduceEq, ↓reduceIte, List.reverse_cons, Option.toList, List.cons_append, List.nil_append, vI_inj, vL_inj, vO_inj, rI, rL, rO, rV, mI_sQ, mL_sQ, mK_sQ, mS_sQ, mQ_s1, mQ_s2, iL_and, iL_or, iL_xor, iL_shl, iL_ushr, iR_and, iR_or, iR_xor, iR_shl, iR_shr, iR_ushr, iR_cmp, yc0, tlX8_publish, tkX8_publish, o_aload, o_getR, o_iadd, o_iald, o_ic, o_iceq, o_icne, o_ifeq, o_ifne, o_iload, o_iret, k0, k94, r0, hn4]
          try simp +contextual (disch := omega) only [impF, impT, and_true, true_and, implies_true, not_false_eq_true, not_true_eq_false]
          rw [← hQ]
          exact ⟨rfl, hM0, MF.rf⟩
        · rw [if_neg h44] at hQ
          refine z_run1 tsX8_publish [] 20 ?_
          simp (maxSteps := 1000000) -implicitDefEqProofs +contextual (disch := omega) only [z_wp_t, z_wp_u, ↓pI_e, ↓pL_e, ↓pO_e, ↓pR_e, ↓p1_I, ↓p1_O, z_gl, z_st1, z_st2, z_nl_I, z_nl_O, z_nl_J, z_nl_L, if_true, if_false, ite_true, ite_false, true_and, and_true, List.mem_cons, List.not_mem_nil, or_false, false_or, or_self, List.length_cons, List.length_nil, InR_t, InL_t, z_ix_t, mI_s1, mI_s2, ↓brT, ↓brF, ↓brT', ↓brF', mL_sI, mR_sI, mK_sI, mS_sI, mI_sL, mL_s1, mL_s2, mR_sL, mK_sL, mS_sL, mI_sR, mL_sR, mR_s1, mR_s2, mK_sR, mS_sR, mA_s1, mA_s2, mL_sA, mR_sA, mK_sA, mS_sA, ix_n, ix_a, ix_m, ix_s, z_sw, z_stop, forall_const, true_implies, false_implies, imp_self, implies_true, not_true_eq_false, not_false_eq_true, ne_eq, eq_self, Option.some.injEq, reduceCtorEq, Nat.reduceAdd, Nat.reduceSub, Nat.reduceMul, Nat.reduceEqDiff, Nat.reduceLT, Nat.reduceLeDiff, Int.reduceAdd, Int.reduceMul, Int.reduceSub, Int.reduceNeg, Int.reduceToNat, Int.reduceLT, Int.reduceLE, Int.reduceEq, ↓reduceIte, List.reverse_cons, Option.toList, List.cons_append, List.nil_append, vI_inj, vL_inj, vO_inj, rI, rL, rO, rV, mI_sQ, mL_sQ, mK_sQ, mS_sQ, mQ_s1, mQ_s2, iL_and, iL_or, iL_xor, iL_shl, iL_ushr, iR_and, iR_or, iR_xor, iR_shl, iR_shr, iR_ushr, iR_cmp, yc0, tlX8_publish, tkX8_publish, o_aload, o_getR, o_iadd, o_iald, o_ic, o_iceq, o_icne, o_ifeq, o_ifne, o_iload, o_iret, k0, k94, r0, hn]
          try simp +contextual (disch := omega) only [impF, impT, and_true, true_and, implies_true, not_false_eq_true, not_true_eq_false]
          refine x_callV (by decide +kernel) cv_X8_75 (sm_keeps l G h (sW s) (sHs s) hS0 hm hA hH 1 (by omega)) k0 (by omega) rfl (by omega) (by omega) rfl (Nat.le_of_ble_eq_true rfl) ?_
          rintro r h1 ⟨rfl, f1, hR1, hk1, hH1⟩
          have hS1 := hS0.of f1.K hR1
          have hm1 : MA (gI h1 94) (sW s) := by rw [f1.I (by omega)]; exact hm
          refine z_run1 tsX8_publish [] 20 ?_
          simp (maxSteps := 1000000) -implicitDefEqProofs +contextual (disch := omega) only [z_wp_t, z_wp_u, ↓pI_e, ↓pL_e, ↓pO_e, ↓pR_e, ↓p1_I, ↓p1_O, z_gl, z_st1, z_st2, z_nl_I, z_nl_O, z_nl_J, z_nl_L, if_true, if_false, ite_true, ite_false, true_and, and_true, List.mem_cons, List.not_mem_nil, or_false, false_or, or_self, List.length_cons, List.length_nil, InR_t, InL_t, z_ix_t, mI_s1, mI_s2, ↓brT, ↓brF, ↓brT', ↓brF', mL_sI, mR_sI, mK_sI, mS_sI, mI_sL, mL_s1, mL_s2, mR_sL, mK_sL, mS_sL, mI_sR, mL_sR, mR_s1, mR_s2, mK_sR, mS_sR, mA_s1, mA_s2, mL_sA, mR_sA, mK_sA, mS_sA, ix_n, ix_a, ix_m, ix_s, z_sw, z_stop, forall_const, true_implies, false_implies, imp_self, implies_true, not_true_eq_false, not_false_eq_true, ne_eq, eq_self, Option.some.injEq, reduceCtorEq, Nat.reduceAdd, Nat.reduceSub, Nat.reduceMul, Nat.reduceEqDiff, Nat.reduceLT, Nat.reduceLeDiff, Int.reduceAdd, Int.reduceMul, Int.reduceSub, Int.reduceNeg, Int.reduceToNat, Int.reduceLT, Int.reduceLE, Int.reduceEq, ↓reduceIte, List.reverse_cons, Option.toList, List.cons_append, List.nil_append, vI_inj, vL_inj, vO_inj, rI, rL, rO, rV, mI_sQ, mL_sQ, mK_sQ, mS_sQ, mQ_s1, mQ_s2, iL_and, iL_or, iL_xor, iL_shl, iL_ushr, iR_and, iR_or, iR_xor, iR_shl, iR_shr, iR_ushr, iR_cmp, yc0, tlX8_publish, tkX8_publish, o_aload, o_getR, o_iadd, o_iald, o_ic, o_iceq, o_icne, o_ifeq, o_ifne, o_iload, o_iret]
          try simp +contextual (disch := omega) only [impF, impT, and_true, true_and, implies_true, not_false_eq_true, not_true_eq_false]
          refine x_callV (by decide +kernel) cv_X8_78 (sm_puts l G h1 P v (sW s) hS1 hm1 hA hP hv (by omega) 1 (by omega)) hS1.1 (by omega) rfl (by omega) (by omega) rfl (Nat.le_of_ble_eq_true rfl) ?_
          rintro r h2 ⟨rfl, f2, hR2, hm2⟩
          have hS2 := hS1.of f2.K hR2
          have k0' := hS2.1
          have k94' := hS2.2.1.1
          have r0' := hS2.2.2.2.1.1
          have hn2 := hm2.1 P hP
          have fin := hM0.chg (MF.of (f1.tr' (U := Mf) f2 (fun c q => by unfold Mf; omega) (fun c q => by unfold Mf; omega)) (hR2.trans hR1) (fun c q => q)) hm2 (insA_ok hA hP hv2 (by omega) hf) (hH1.o (by rw [f2.I (by omega)]) (f2.I (by omega))) (by rw [f2.I (by omega)]; exact hk1 4 (by omega)) (by rw [f2.I (by omega), f1.I (by omega)])
          refine z_run1 tsX8_publish [] 20 ?_
          simp (maxSteps := 1000000) -implicitDefEqProofs +contextual (disch := omega) only [z_wp_t, z_wp_u, ↓pI_e, ↓pL_e, ↓pO_e, ↓pR_e, ↓p1_I, ↓p1_O, z_gl, z_st1, z_st2, z_nl_I, z_nl_O, z_nl_J, z_nl_L, if_true, if_false, ite_true, ite_false, true_and, and_true, List.mem_cons, List.not_mem_nil, or_false, false_or, or_self, List.length_cons, List.length_nil, InR_t, InL_t, z_ix_t, mI_s1, mI_s2, ↓brT, ↓brF, ↓brT', ↓brF', mL_sI, mR_sI, mK_sI, mS_sI, mI_sL, mL_s1, mL_s2, mR_sL, mK_sL, mS_sL, mI_sR, mL_sR, mR_s1, mR_s2, mK_sR, mS_sR, mA_s1, mA_s2, mL_sA, mR_sA, mK_sA, mS_sA, ix_n, ix_a, ix_m, ix_s, z_sw, z_stop, forall_const, true_implies, false_implies, imp_self, implies_true, not_true_eq_false, not_false_eq_true, ne_eq, eq_self, Option.some.injEq, reduceCtorEq, Nat.reduceAdd, Nat.reduceSub, Nat.reduceMul, Nat.reduceEqDiff, Nat.reduceLT, Nat.reduceLeDiff, Int.reduceAdd, Int.reduceMul, Int.reduceSub, Int.reduceNeg, Int.reduceToNat, Int.reduceLT, Int.reduceLE, Int.reduceEq, ↓reduceIte, List.reverse_cons, Option.toList, List.cons_append, List.nil_append, vI_inj, vL_inj, vO_inj, rI, rL, rO, rV, mI_sQ, mL_sQ, mK_sQ, mS_sQ, mQ_s1, mQ_s2, iL_and, iL_or, iL_xor, iL_shl, iL_ushr, iR_and, iR_or, iR_xor, iR_shl, iR_shr, iR_ushr, iR_cmp, yc0, tlX8_publish, tkX8_publish, o_aload, o_getR, o_iadd, o_iald, o_ic, o_iceq, o_icne, o_ifeq, o_ifne, o_iload, o_iret, k0', k94', r0', hn2]
          try simp +contextual (disch := omega) only [impF, impT, and_true, true_and, implies_true, not_false_eq_true, not_true_eq_false]
          rw [← hQ]
          refine ⟨?_, fin.1, fin.2⟩
          rw [show aN (insA (sW s) P v) P = aN (sW s) P + 1 by simp [insA, aN, up]]
          rfl
      · rw [if_pos hf] at hQ
        refine z_run1 tsX8_publish [] 20 ?_
        simp (maxSteps := 1000000) -implicitDefEqProofs +contextual (disch := omega) only [z_wp_t, z_wp_u, ↓pI_e, ↓pL_e, ↓pO_e, ↓pR_e, ↓p1_I, ↓p1_O, z_gl, z_st1, z_st2, z_nl_I, z_nl_O, z_nl_J, z_nl_L, if_true, if_false, ite_true, ite_false, true_and, and_true, List.mem_cons, List.not_mem_nil, or_false, false_or, or_self, List.length_cons, List.length_nil, InR_t, InL_t, z_ix_t, mI_s1, mI_s2, ↓brT, ↓brF, ↓brT', ↓brF', mL_sI, mR_sI, mK_sI, mS_sI, mI_sL, mL_s1, mL_s2, mR_sL, mK_sL, mS_sL, mI_sR, mL_sR, mR_s1, mR_s2, mK_sR, mS_sR, mA_s1, mA_s2, mL_sA, mR_sA, mK_sA, mS_sA, ix_n, ix_a, ix_m, ix_s, z_sw, z_stop, forall_const, true_implies, false_implies, imp_self, implies_true, not_true_eq_false, not_false_eq_true, ne_eq, eq_self, Option.some.injEq, reduceCtorEq, Nat.reduceAdd, Nat.reduceSub, Nat.reduceMul, Nat.reduceEqDiff, Nat.reduceLT, Nat.reduceLeDiff, Int.reduceAdd, Int.reduceMul, Int.reduceSub, Int.reduceNeg, Int.reduceToNat, Int.reduceLT, Int.reduceLE, Int.reduceEq, ↓reduceIte, List.reverse_cons, Option.toList, List.cons_append, List.nil_append, vI_inj, vL_inj, vO_inj, rI, rL, rO, rV, mI_sQ, mL_sQ, mK_sQ, mS_sQ, mQ_s1, mQ_s2, iL_and, iL_or, iL_xor, iL_shl, iL_ushr, iR_and, iR_or, iR_xor, iR_shl, iR_shr, iR_ushr, iR_cmp, yc0, tlX8_publish, tkX8_publish, o_aload, o_getR, o_iadd, o_iald, o_ic, o_iceq, o_icne, o_ifeq, o_ifne, o_iload, o_iret]
        try simp +contextual (disch := omega) only [impF, impT, and_true, true_and, implies_true, not_false_eq_true, not_true_eq_false]
        rw [← hQ]
        exact ⟨rfl, hM0, MF.rf⟩
set_option maxRecDepth 4000 in
set_option maxHeartbeats 4000000 in
theorem sm_yank (l : Launch) (G : zG) (h : zH) (s : zS) (p v : Int) (hM : MI h s) (hp : InR p) (hv : InR v) (lv : Nat) (hlv : 3 ≤ lv) : z_Sp l G mtX8_yank lv 0 0 [vR 93, vI p, vI v] (h) (mQ h (fYank s p v)) := by
  refine x_enter [vR 93, vI p, vI v, vJ] (by decide +kernel) (by omega) rfl (Nat.le_of_ble_eq_true rfl) ?_
  generalize hQ : mQ h (fYank s p v) = QQ
  have hM0 := hM
  obtain ⟨hS, hm, hH, hT, hA⟩ := hM
  have k0 := hS.1
  refine z_run1 tsX8_yank [] 20 ?_
  simp (maxSteps := 1000000) -implicitDefEqProofs +contextual (disch := omega) only [z_wp_t, z_wp_u, ↓pI_e, ↓pL_e, ↓pO_e, ↓pR_e, ↓p1_I, ↓p1_O, z_gl, z_st1, z_st2, z_nl_I, z_nl_O, z_nl_J, z_nl_L, if_true, if_false, ite_true, ite_false, true_and, and_true, List.mem_cons, List.not_mem_nil, or_false, false_or, or_self, List.length_cons, List.length_nil, InR_t, InL_t, z_ix_t, mI_s1, mI_s2, ↓brT, ↓brF, ↓brT', ↓brF', mL_sI, mR_sI, mK_sI, mS_sI, mI_sL, mL_s1, mL_s2, mR_sL, mK_sL, mS_sL, mI_sR, mL_sR, mR_s1, mR_s2, mK_sR, mS_sR, mA_s1, mA_s2, mL_sA, mR_sA, mK_sA, mS_sA, ix_n, ix_a, ix_m, ix_s, z_sw, z_stop, forall_const, true_implies, false_implies, imp_self, implies_true, not_true_eq_false, not_false_eq_true, ne_eq, eq_self, Option.some.injEq, reduceCtorEq, Nat.reduceAdd, Nat.reduceSub, Nat.reduceMul, Nat.reduceEqDiff, Nat.reduceLT, Nat.reduceLeDiff, Int.reduceAdd, Int.reduceMul, Int.reduceSub, Int.reduceNeg, Int.reduceToNat, Int.reduceLT, Int.reduceLE, Int.reduceEq, ↓reduceIte, List.reverse_cons, Option.toList, List.cons_append, List.nil_append, vI_inj, vL_inj, vO_inj, rI, rL, rO, rV, mI_sQ, mL_sQ, mK_sQ, mS_sQ, mQ_s1, mQ_s2, iL_and, iL_or, iL_xor, iL_shl, iL_ushr, iR_and, iR_or, iR_xor, iR_shl, iR_shr, iR_ushr, iR_cmp, yc0, tlX8_yank, tkX8_yank, o_aload, o_getR, o_iadd, o_iald, o_ic, o_icne, o_ifeq, o_ifne, o_iload, o_iret, o_istore]
  try simp +contextual (disch := omega) only [impF, impT, and_true, true_and, implies_true, not_false_eq_true, not_true_eq_false]
  refine x_callS (by decide +kernel) cv_X8_64 (sm_isPack l G h p hp 2 (by omega)) (by omega) rfl (by omega) (by omega) rfl (Nat.le_of_ble_eq_true rfl) ?_
  rintro r h' ⟨rfl, hE⟩
  subst h'
  cases hop : okP p
  · simp only [Bool.false_eq_true, if_false]
    refine z_run1 tsX8_yank [] 20 ?_
    simp (maxSteps := 1000000) -implicitDefEqProofs +contextual (disch := omega) only [z_wp_t, z_wp_u, ↓pI_e, ↓pL_e, ↓pO_e, ↓pR_e, ↓p1_I, ↓p1_O, z_gl, z_st1, z_st2, z_nl_I, z_nl_O, z_nl_J, z_nl_L, if_true, if_false, ite_true, ite_false, true_and, and_true, List.mem_cons, List.not_mem_nil, or_false, false_or, or_self, List.length_cons, List.length_nil, InR_t, InL_t, z_ix_t, mI_s1, mI_s2, ↓brT, ↓brF, ↓brT', ↓brF', mL_sI, mR_sI, mK_sI, mS_sI, mI_sL, mL_s1, mL_s2, mR_sL, mK_sL, mS_sL, mI_sR, mL_sR, mR_s1, mR_s2, mK_sR, mS_sR, mA_s1, mA_s2, mL_sA, mR_sA, mK_sA, mS_sA, ix_n, ix_a, ix_m, ix_s, z_sw, z_stop, forall_const, true_implies, false_implies, imp_self, implies_true, not_true_eq_false, not_false_eq_true, ne_eq, eq_self, Option.some.injEq, reduceCtorEq, Nat.reduceAdd, Nat.reduceSub, Nat.reduceMul, Nat.reduceEqDiff, Nat.reduceLT, Nat.reduceLeDiff, Int.reduceAdd, Int.reduceMul, Int.reduceSub, Int.reduceNeg, Int.reduceToNat, Int.reduceLT, Int.reduceLE, Int.reduceEq, ↓reduceIte, List.reverse_cons, Option.toList, List.cons_append, List.nil_append, vI_inj, vL_inj, vO_inj, rI, rL, rO, rV, mI_sQ, mL_sQ, mK_sQ, mS_sQ, mQ_s1, mQ_s2, iL_and, iL_or, iL_xor, iL_shl, iL_ushr, iR_and, iR_or, iR_xor, iR_shl, iR_shr, iR_ushr, iR_cmp, yc0, tlX8_yank, tkX8_yank, o_aload, o_getR, o_iadd, o_iald, o_ic, o_icne, o_ifeq, o_ifne, o_iload, o_iret, o_istore]
    try simp +contextual (disch := omega) only [impF, impT, and_true, true_and, implies_true, not_false_eq_true, not_true_eq_false]
    rw [← hQ, fYank, hop]
    exact ⟨rfl, hM0, MF.rf⟩
  · simp only [if_true]
    refine z_run1 tsX8_yank [] 20 ?_
    simp (maxSteps := 1000000) -implicitDefEqProofs +contextual (disch := omega) only [z_wp_t, z_wp_u, ↓pI_e, ↓pL_e, ↓pO_e, ↓pR_e, ↓p1_I, ↓p1_O, z_gl, z_st1, z_st2, z_nl_I, z_nl_O, z_nl_J, z_nl_L, if_true, if_false, ite_true, ite_false, true_and, and_true, List.mem_cons, List.not_mem_nil, or_false, false_or, or_self, List.length_cons, List.length_nil, InR_t, InL_t, z_ix_t, mI_s1, mI_s2, ↓brT, ↓brF, ↓brT', ↓brF', mL_sI, mR_sI, mK_sI, mS_sI, mI_sL, mL_s1, mL_s2, mR_sL, mK_sL, mS_sL, mI_sR, mL_sR, mR_s1, mR_s2, mK_sR, mS_sR, mA_s1, mA_s2, mL_sA, mR_sA, mK_sA, mS_sA, ix_n, ix_a, ix_m, ix_s, z_sw, z_stop, forall_const, true_implies, false_implies, imp_self, implies_true, not_true_eq_false, not_false_eq_true, ne_eq, eq_self, Option.some.injEq, reduceCtorEq, Nat.reduceAdd, Nat.reduceSub, Nat.reduceMul, Nat.reduceEqDiff, Nat.reduceLT, Nat.reduceLeDiff, Int.reduceAdd, Int.reduceMul, Int.reduceSub, Int.reduceNeg, Int.reduceToNat, Int.reduceLT, Int.reduceLE, Int.reduceEq, ↓reduceIte, List.reverse_cons, Option.toList, List.cons_append, List.nil_append, vI_inj, vL_inj, vO_inj, rI, rL, rO, rV, mI_sQ, mL_sQ, mK_sQ, mS_sQ, mQ_s1, mQ_s2, iL_and, iL_or, iL_xor, iL_shl, iL_ushr, iR_and, iR_or, iR_xor, iR_shl, iR_shr, iR_ushr, iR_cmp, yc0, tlX8_yank, tkX8_yank, o_aload, o_getR, o_iadd, o_iald, o_ic, o_icne, o_ifeq, o_ifne, o_iload, o_iret, o_istore]
    try simp +contextual (disch := omega) only [impF, impT, and_true, true_and, implies_true, not_false_eq_true, not_true_eq_false]
    refine x_callS (by decide +kernel) cv_X8_68 (sm_isVersion l G h v hv 2 (by omega)) (by omega) rfl (by omega) (by omega) rfl (Nat.le_of_ble_eq_true rfl) ?_
    rintro r h' ⟨rfl, hE⟩
    subst h'
    cases hov : okV v
    · simp only [Bool.false_eq_true, if_false]
      refine z_run1 tsX8_yank [] 20 ?_
      simp (maxSteps := 1000000) -implicitDefEqProofs +contextual (disch := omega) only [z_wp_t, z_wp_u, ↓pI_e, ↓pL_e, ↓pO_e, ↓pR_e, ↓p1_I, ↓p1_O, z_gl, z_st1, z_st2, z_nl_I, z_nl_O, z_nl_J, z_nl_L, if_true, if_false, ite_true, ite_false, true_and, and_true, List.mem_cons, List.not_mem_nil, or_false, false_or, or_self, List.length_cons, List.length_nil, InR_t, InL_t, z_ix_t, mI_s1, mI_s2, ↓brT, ↓brF, ↓brT', ↓brF', mL_sI, mR_sI, mK_sI, mS_sI, mI_sL, mL_s1, mL_s2, mR_sL, mK_sL, mS_sL, mI_sR, mL_sR, mR_s1, mR_s2, mK_sR, mS_sR, mA_s1, mA_s2, mL_sA, mR_sA, mK_sA, mS_sA, ix_n, ix_a, ix_m, ix_s, z_sw, z_stop, forall_const, true_implies, false_implies, imp_self, implies_true, not_true_eq_false, not_false_eq_true, ne_eq, eq_self, Option.some.injEq, reduceCtorEq, Nat.reduceAdd, Nat.reduceSub, Nat.reduceMul, Nat.reduceEqDiff, Nat.reduceLT, Nat.reduceLeDiff, Int.reduceAdd, Int.reduceMul, Int.reduceSub, Int.reduceNeg, Int.reduceToNat, Int.reduceLT, Int.reduceLE, Int.reduceEq, ↓reduceIte, List.reverse_cons, Option.toList, List.cons_append, List.nil_append, vI_inj, vL_inj, vO_inj, rI, rL, rO, rV, mI_sQ, mL_sQ, mK_sQ, mS_sQ, mQ_s1, mQ_s2, iL_and, iL_or, iL_xor, iL_shl, iL_ushr, iR_and, iR_or, iR_xor, iR_shl, iR_shr, iR_ushr, iR_cmp, yc0, tlX8_yank, tkX8_yank, o_aload, o_getR, o_iadd, o_iald, o_ic, o_icne, o_ifeq, o_ifne, o_iload, o_iret, o_istore]
      try simp +contextual (disch := omega) only [impF, impT, and_true, true_and, implies_true, not_false_eq_true, not_true_eq_false]
      rw [← hQ, fYank, hop, hov]
      exact ⟨rfl, hM0, MF.rf⟩
    · simp only [if_true]
      have hp2 := okP_t hop
      have hv2 := okV_t hov
      obtain ⟨P, rfl⟩ := Int.eq_ofNat_of_zero_le hp2.1
      have hP : P < 8 := by omega
      have h4 := hA.1 P hP
      rw [fYank, hop, hov, Int.toNat_natCast] at hQ
      simp only [Bool.and_self, if_true] at hQ
      refine z_run1 tsX8_yank [] 20 ?_
      simp (maxSteps := 1000000) -implicitDefEqProofs +contextual (disch := omega) only [z_wp_t, z_wp_u, ↓pI_e, ↓pL_e, ↓pO_e, ↓pR_e, ↓p1_I, ↓p1_O, z_gl, z_st1, z_st2, z_nl_I, z_nl_O, z_nl_J, z_nl_L, if_true, if_false, ite_true, ite_false, true_and, and_true, List.mem_cons, List.not_mem_nil, or_false, false_or, or_self, List.length_cons, List.length_nil, InR_t, InL_t, z_ix_t, mI_s1, mI_s2, ↓brT, ↓brF, ↓brT', ↓brF', mL_sI, mR_sI, mK_sI, mS_sI, mI_sL, mL_s1, mL_s2, mR_sL, mK_sL, mS_sL, mI_sR, mL_sR, mR_s1, mR_s2, mK_sR, mS_sR, mA_s1, mA_s2, mL_sA, mR_sA, mK_sA, mS_sA, ix_n, ix_a, ix_m, ix_s, z_sw, z_stop, forall_const, true_implies, false_implies, imp_self, implies_true, not_true_eq_false, not_false_eq_true, ne_eq, eq_self, Option.some.injEq, reduceCtorEq, Nat.reduceAdd, Nat.reduceSub, Nat.reduceMul, Nat.reduceEqDiff, Nat.reduceLT, Nat.reduceLeDiff, Int.reduceAdd, Int.reduceMul, Int.reduceSub, Int.reduceNeg, Int.reduceToNat, Int.reduceLT, Int.reduceLE, Int.reduceEq, ↓reduceIte, List.reverse_cons, Option.toList, List.cons_append, List.nil_append, vI_inj, vL_inj, vO_inj, rI, rL, rO, rV, mI_sQ, mL_sQ, mK_sQ, mS_sQ, mQ_s1, mQ_s2, iL_and, iL_or, iL_xor, iL_shl, iL_ushr, iR_and, iR_or, iR_xor, iR_shl, iR_shr, iR_ushr, iR_cmp, yc0, tlX8_yank, tkX8_yank, o_aload, o_getR, o_iadd, o_iald, o_ic, o_icne, o_ifeq, o_ifne, o_iload, o_iret, o_istore]
      try simp +contextual (disch := omega) only [impF, impT, and_true, true_and, implies_true, not_false_eq_true, not_true_eq_false]
      refine x_callV (by decide +kernel) cv_X8_71 (sm_indexOf l G h P v (sW s) hS hm hA hP hv 1 (by omega)) k0 (by omega) rfl (by omega) (by omega) rfl (Nat.le_of_ble_eq_true rfl) ?_
      rintro r h' ⟨rfl, hE⟩
      subst h'
      by_cases hf : fIx (aV (sW s) P) v (aN (sW s) P) 0 = -1
      · rw [if_pos hf] at hQ
        rw [hf]
        refine z_run1 tsX8_yank [] 20 ?_
        simp (maxSteps := 1000000) -implicitDefEqProofs +contextual (disch := omega) only [z_wp_t, z_wp_u, ↓pI_e, ↓pL_e, ↓pO_e, ↓pR_e, ↓p1_I, ↓p1_O, z_gl, z_st1, z_st2, z_nl_I, z_nl_O, z_nl_J, z_nl_L, if_true, if_false, ite_true, ite_false, true_and, and_true, List.mem_cons, List.not_mem_nil, or_false, false_or, or_self, List.length_cons, List.length_nil, InR_t, InL_t, z_ix_t, mI_s1, mI_s2, ↓brT, ↓brF, ↓brT', ↓brF', mL_sI, mR_sI, mK_sI, mS_sI, mI_sL, mL_s1, mL_s2, mR_sL, mK_sL, mS_sL, mI_sR, mL_sR, mR_s1, mR_s2, mK_sR, mS_sR, mA_s1, mA_s2, mL_sA, mR_sA, mK_sA, mS_sA, ix_n, ix_a, ix_m, ix_s, z_sw, z_stop, forall_const, true_implies, false_implies, imp_self, implies_true, not_true_eq_false, not_false_eq_true, ne_eq, eq_self, Option.some.injEq, reduceCtorEq, Nat.reduceAdd, Nat.reduceSub, Nat.reduceMul, Nat.reduceEqDiff, Nat.reduceLT, Nat.reduceLeDiff, Int.reduceAdd, Int.reduceMul, Int.reduceSub, Int.reduceNeg, Int.reduceToNat, Int.reduceLT, Int.reduceLE, Int.reduceEq, ↓reduceIte, List.reverse_cons, Option.toList, List.cons_append, List.nil_append, vI_inj, vL_inj, vO_inj, rI, rL, rO, rV, mI_sQ, mL_sQ, mK_sQ, mS_sQ, mQ_s1, mQ_s2, iL_and, iL_or, iL_xor, iL_shl, iL_ushr, iR_and, iR_or, iR_xor, iR_shl, iR_shr, iR_ushr, iR_cmp, yc0, tlX8_yank, tkX8_yank, o_aload, o_getR, o_iadd, o_iald, o_ic, o_icne, o_ifeq, o_ifne, o_iload, o_iret, o_istore]
        try simp +contextual (disch := omega) only [impF, impT, and_true, true_and, implies_true, not_false_eq_true, not_true_eq_false]
        rw [← hQ]
        exact ⟨rfl, hM0, MF.rf⟩
      · rw [if_neg hf] at hQ
        obtain ⟨g1, g2, g3⟩ := fIx_some rfl hf
        obtain ⟨j, hj⟩ := Int.eq_ofNat_of_zero_le (a := fIx (aV (sW s) P) v (aN (sW s) P) 0) (by omega)
        rw [hj, Int.toNat_natCast] at hQ
        have hjn : j < aN (sW s) P := by omega
        rw [hj]
        refine z_run1 tsX8_yank [] 20 ?_
        simp (maxSteps := 1000000) -implicitDefEqProofs +contextual (disch := omega) only [z_wp_t, z_wp_u, ↓pI_e, ↓pL_e, ↓pO_e, ↓pR_e, ↓p1_I, ↓p1_O, z_gl, z_st1, z_st2, z_nl_I, z_nl_O, z_nl_J, z_nl_L, if_true, if_false, ite_true, ite_false, true_and, and_true, List.mem_cons, List.not_mem_nil, or_false, false_or, or_self, List.length_cons, List.length_nil, InR_t, InL_t, z_ix_t, mI_s1, mI_s2, ↓brT, ↓brF, ↓brT', ↓brF', mL_sI, mR_sI, mK_sI, mS_sI, mI_sL, mL_s1, mL_s2, mR_sL, mK_sL, mS_sL, mI_sR, mL_sR, mR_s1, mR_s2, mK_sR, mS_sR, mA_s1, mA_s2, mL_sA, mR_sA, mK_sA, mS_sA, ix_n, ix_a, ix_m, ix_s, z_sw, z_stop, forall_const, true_implies, false_implies, imp_self, implies_true, not_true_eq_false, not_false_eq_true, ne_eq, eq_self, Option.some.injEq, reduceCtorEq, Nat.reduceAdd, Nat.reduceSub, Nat.reduceMul, Nat.reduceEqDiff, Nat.reduceLT, Nat.reduceLeDiff, Int.reduceAdd, Int.reduceMul, Int.reduceSub, Int.reduceNeg, Int.reduceToNat, Int.reduceLT, Int.reduceLE, Int.reduceEq, ↓reduceIte, List.reverse_cons, Option.toList, List.cons_append, List.nil_append, vI_inj, vL_inj, vO_inj, rI, rL, rO, rV, mI_sQ, mL_sQ, mK_sQ, mS_sQ, mQ_s1, mQ_s2, iL_and, iL_or, iL_xor, iL_shl, iL_ushr, iR_and, iR_or, iR_xor, iR_shl, iR_shr, iR_ushr, iR_cmp, yc0, tlX8_yank, tkX8_yank, o_aload, o_getR, o_iadd, o_iald, o_ic, o_icne, o_ifeq, o_ifne, o_iload, o_iret, o_istore]
        try simp +contextual (disch := omega) only [impF, impT, and_true, true_and, implies_true, not_false_eq_true, not_true_eq_false]
        refine x_callV (by decide +kernel) cv_X8_75 (sm_keeps l G h (sW s) (sHs s) hS hm hA hH 1 (by omega)) k0 (by omega) rfl (by omega) (by omega) rfl (Nat.le_of_ble_eq_true rfl) ?_
        rintro r h1 ⟨rfl, f1, hR1, hk1, hH1⟩
        have hS1 := hS.of f1.K hR1
        have hm1 : MA (gI h1 94) (sW s) := by rw [f1.I (by omega)]; exact hm
        refine z_run1 tsX8_yank [] 20 ?_
        simp (maxSteps := 1000000) -implicitDefEqProofs +contextual (disch := omega) only [z_wp_t, z_wp_u, ↓pI_e, ↓pL_e, ↓pO_e, ↓pR_e, ↓p1_I, ↓p1_O, z_gl, z_st1, z_st2, z_nl_I, z_nl_O, z_nl_J, z_nl_L, if_true, if_false, ite_true, ite_false, true_and, and_true, List.mem_cons, List.not_mem_nil, or_false, false_or, or_self, List.length_cons, List.length_nil, InR_t, InL_t, z_ix_t, mI_s1, mI_s2, ↓brT, ↓brF, ↓brT', ↓brF', mL_sI, mR_sI, mK_sI, mS_sI, mI_sL, mL_s1, mL_s2, mR_sL, mK_sL, mS_sL, mI_sR, mL_sR, mR_s1, mR_s2, mK_sR, mS_sR, mA_s1, mA_s2, mL_sA, mR_sA, mK_sA, mS_sA, ix_n, ix_a, ix_m, ix_s, z_sw, z_stop, forall_const, true_implies, false_implies, imp_self, implies_true, not_true_eq_false, not_false_eq_true, ne_eq, eq_self, Option.some.injEq, reduceCtorEq, Nat.reduceAdd, Nat.reduceSub, Nat.reduceMul, Nat.reduceEqDiff, Nat.reduceLT, Nat.reduceLeDiff, Int.reduceAdd, Int.reduceMul, Int.reduceSub, Int.reduceNeg, Int.reduceToNat, Int.reduceLT, Int.reduceLE, Int.reduceEq, ↓reduceIte, List.reverse_cons, Option.toList, List.cons_append, List.nil_append, vI_inj, vL_inj, vO_inj, rI, rL, rO, rV, mI_sQ, mL_sQ, mK_sQ, mS_sQ, mQ_s1, mQ_s2, iL_and, iL_or, iL_xor, iL_shl, iL_ushr, iR_and, iR_or, iR_xor, iR_shl, iR_shr, iR_ushr, iR_cmp, yc0, tlX8_yank, tkX8_yank, o_aload, o_getR, o_iadd, o_iald, o_ic, o_icne, o_ifeq, o_ifne, o_iload, o_iret, o_istore]
        try simp +contextual (disch := omega) only [impF, impT, and_true, true_and, implies_true, not_false_eq_true, not_true_eq_false]
        refine x_callV (by decide +kernel) cv_X8_82 (sm_takes l G h1 P j (sW s) hS1 hm1 hA hP hjn 1 (by omega)) hS1.1 (by omega) rfl (by omega) (by omega) rfl (Nat.le_of_ble_eq_true rfl) ?_
        rintro r h2 ⟨rfl, f2, hR2, hm2⟩
        have hS2 := hS1.of f2.K hR2
        have k0' := hS2.1
        have k94' := hS2.2.1.1
        have r0' := hS2.2.2.2.1.1
        have hn2 := hm2.1 P hP
        have fin := hM0.chg (MF.of (f1.tr' (U := Mf) f2 (fun c q => by unfold Mf; omega) (fun c q => by unfold Mf; omega)) (hR2.trans hR1) (fun c q => q)) hm2 (remA_ok hA hP hjn) (hH1.o (by rw [f2.I (by omega)]) (f2.I (by omega))) (by rw [f2.I (by omega)]; exact hk1 4 (by omega)) (by rw [f2.I (by omega), f1.I (by omega)])
        refine z_run1 tsX8_yank [] 20 ?_
        simp (maxSteps := 1000000) -implicitDefEqProofs +contextual (disch := omega) only [z_wp_t, z_wp_u, ↓pI_e, ↓pL_e, ↓pO_e, ↓pR_e, ↓p1_I, ↓p1_O, z_gl, z_st1, z_st2, z_nl_I, z_nl_O, z_nl_J, z_nl_L, if_true, if_false, ite_true, ite_false, true_and, and_true, List.mem_cons, List.not_mem_nil, or_false, false_or, or_self, List.length_cons, List.length_nil, InR_t, InL_t, z_ix_t, mI_s1, mI_s2, ↓brT, ↓brF, ↓brT', ↓brF', mL_sI, mR_sI, mK_sI, mS_sI, mI_sL, mL_s1, mL_s2, mR_sL, mK_sL, mS_sL, mI_sR, mL_sR, mR_s1, mR_s2, mK_sR, mS_sR, mA_s1, mA_s2, mL_sA, mR_sA, mK_sA, mS_sA, ix_n, ix_a, ix_m, ix_s, z_sw, z_stop, forall_const, true_implies, false_implies, imp_self, implies_true, not_true_eq_false, not_false_eq_true, ne_eq, eq_self, Option.some.injEq, reduceCtorEq, Nat.reduceAdd, Nat.reduceSub, Nat.reduceMul, Nat.reduceEqDiff, Nat.reduceLT, Nat.reduceLeDiff, Int.reduceAdd, Int.reduceMul, Int.reduceSub, Int.reduceNeg, Int.reduceToNat, Int.reduceLT, Int.reduceLE, Int.reduceEq, ↓reduceIte, List.reverse_cons, Option.toList, List.cons_append, List.nil_append, vI_inj, vL_inj, vO_inj, rI, rL, rO, rV, mI_sQ, mL_sQ, mK_sQ, mS_sQ, mQ_s1, mQ_s2, iL_and, iL_or, iL_xor, iL_shl, iL_ushr, iR_and, iR_or, iR_xor, iR_shl, iR_shr, iR_ushr, iR_cmp, yc0, tlX8_yank, tkX8_yank, o_aload, o_getR, o_iadd, o_iald, o_ic, o_icne, o_ifeq, o_ifne, o_iload, o_iret, o_istore, k0', k94', r0', hn2]
        try simp +contextual (disch := omega) only [impF, impT, and_true, true_and, implies_true, not_false_eq_true, not_true_eq_false]
        rw [← hQ]
        refine ⟨?_, fin.1, fin.2⟩
        rw [show aN (remA (sW s) P j) P = aN (sW s) P - 1 by simp [remA, aN, up], show ((aN (sW s) P - 1 : Nat) : Int) = (aN (sW s) P : Int) - 1 by omega]
set_option maxHeartbeats 4000000 in
theorem sm_version (l : Launch) (G : zG) (h : zH) (s : zS) (p i : Int) (hM : MI h s) (hp : InR p) (hi : InR i) (lv : Nat) (hlv : 3 ≤ lv) : z_Sp l G mtX8_version lv 0 0 [vR 93, vI p, vI i] (h) (mQ h (fVersion s p i, s)) := by
  refine x_enter [vR 93, vI p, vI i] (by decide +kernel) (by omega) rfl (Nat.le_of_ble_eq_true rfl) ?_
  generalize hQ : mQ h (fVersion s p i, s) = QQ
  have hM0 := hM
  obtain ⟨⟨k0, ⟨k94, -⟩, -, ⟨r0, -⟩, -⟩, hm, hH, hT, hA⟩ := hM
  have hi' := hi
  unfold InR at hi'
  refine z_run1 tsX8_version [] 20 ?_
  simp (maxSteps := 1000000) -implicitDefEqProofs +contextual (disch := omega) only [z_wp_t, z_wp_u, ↓pI_e, ↓pL_e, ↓pO_e, ↓pR_e, ↓p1_I, ↓p1_O, z_gl, z_st1, z_st2, z_nl_I, z_nl_O, z_nl_J, z_nl_L, if_true, if_false, ite_true, ite_false, true_and, and_true, List.mem_cons, List.not_mem_nil, or_false, false_or, or_self, List.length_cons, List.length_nil, InR_t, InL_t, z_ix_t, mI_s1, mI_s2, ↓brT, ↓brF, ↓brT', ↓brF', mL_sI, mR_sI, mK_sI, mS_sI, mI_sL, mL_s1, mL_s2, mR_sL, mK_sL, mS_sL, mI_sR, mL_sR, mR_s1, mR_s2, mK_sR, mS_sR, mA_s1, mA_s2, mL_sA, mR_sA, mK_sA, mS_sA, ix_n, ix_a, ix_m, ix_s, z_sw, z_stop, forall_const, true_implies, false_implies, imp_self, implies_true, not_true_eq_false, not_false_eq_true, ne_eq, eq_self, Option.some.injEq, reduceCtorEq, Nat.reduceAdd, Nat.reduceSub, Nat.reduceMul, Nat.reduceEqDiff, Nat.reduceLT, Nat.reduceLeDiff, Int.reduceAdd, Int.reduceMul, Int.reduceSub, Int.reduceNeg, Int.reduceToNat, Int.reduceLT, Int.reduceLE, Int.reduceEq, ↓reduceIte, List.reverse_cons, Option.toList, List.cons_append, List.nil_append, vI_inj, vL_inj, vO_inj, rI, rL, rO, rV, mI_sQ, mL_sQ, mK_sQ, mS_sQ, mQ_s1, mQ_s2, iL_and, iL_or, iL_xor, iL_shl, iL_ushr, iR_and, iR_or, iR_xor, iR_shl, iR_shr, iR_ushr, iR_cmp, yc0, tlX8_version, tkX8_version, o_aload, o_getR, o_goto, o_iadd, o_iald, o_ic, o_icge, o_icne, o_ifeq, o_iload, o_imul, o_iret]
  try simp +contextual (disch := omega) only [impF, impT, and_true, true_and, implies_true, not_false_eq_true, not_true_eq_false]
  refine x_callS (by decide +kernel) cv_X8_64 (sm_isPack l G h p hp 2 (by omega)) (by omega) rfl (by omega) (by omega) rfl (Nat.le_of_ble_eq_true rfl) ?_
  rintro r h' ⟨rfl, hE⟩
  subst h'
  cases hop : okP p
  · simp only [Bool.false_eq_true, if_false]
    refine z_run1 tsX8_version [] 20 ?_
    simp (maxSteps := 1000000) -implicitDefEqProofs +contextual (disch := omega) only [z_wp_t, z_wp_u, ↓pI_e, ↓pL_e, ↓pO_e, ↓pR_e, ↓p1_I, ↓p1_O, z_gl, z_st1, z_st2, z_nl_I, z_nl_O, z_nl_J, z_nl_L, if_true, if_false, ite_true, ite_false, true_and, and_true, List.mem_cons, List.not_mem_nil, or_false, false_or, or_self, List.length_cons, List.length_nil, InR_t, InL_t, z_ix_t, mI_s1, mI_s2, ↓brT, ↓brF, ↓brT', ↓brF', mL_sI, mR_sI, mK_sI, mS_sI, mI_sL, mL_s1, mL_s2, mR_sL, mK_sL, mS_sL, mI_sR, mL_sR, mR_s1, mR_s2, mK_sR, mS_sR, mA_s1, mA_s2, mL_sA, mR_sA, mK_sA, mS_sA, ix_n, ix_a, ix_m, ix_s, z_sw, z_stop, forall_const, true_implies, false_implies, imp_self, implies_true, not_true_eq_false, not_false_eq_true, ne_eq, eq_self, Option.some.injEq, reduceCtorEq, Nat.reduceAdd, Nat.reduceSub, Nat.reduceMul, Nat.reduceEqDiff, Nat.reduceLT, Nat.reduceLeDiff, Int.reduceAdd, Int.reduceMul, Int.reduceSub, Int.reduceNeg, Int.reduceToNat, Int.reduceLT, Int.reduceLE, Int.reduceEq, ↓reduceIte, List.reverse_cons, Option.toList, List.cons_append, List.nil_append, vI_inj, vL_inj, vO_inj, rI, rL, rO, rV, mI_sQ, mL_sQ, mK_sQ, mS_sQ, mQ_s1, mQ_s2, iL_and, iL_or, iL_xor, iL_shl, iL_ushr, iR_and, iR_or, iR_xor, iR_shl, iR_shr, iR_ushr, iR_cmp, yc0, tlX8_version, tkX8_version, o_aload, o_getR, o_goto, o_iadd, o_iald, o_ic, o_icge, o_icne, o_ifeq, o_iload, o_imul, o_iret]
    try simp +contextual (disch := omega) only [impF, impT, and_true, true_and, implies_true, not_false_eq_true, not_true_eq_false]
    rw [← hQ, fVersion, hop]
    exact ⟨rfl, hM0, MF.rf⟩
  · simp only [if_true]
    have hp2 := okP_t hop
    obtain ⟨P, rfl⟩ := Int.eq_ofNat_of_zero_le hp2.1
    have hP : P < 8 := by omega
    have hn := hm.1 P hP
    have h4 := hA.1 P hP
    rw [fVersion, hop, Int.toNat_natCast] at hQ
    by_cases h1 : i < -1
    · rw [show decide (-1 ≤ i) = false by simp; omega] at hQ
      refine z_run1 tsX8_version [] 20 ?_
      simp (maxSteps := 1000000) -implicitDefEqProofs +contextual (disch := omega) only [z_wp_t, z_wp_u, ↓pI_e, ↓pL_e, ↓pO_e, ↓pR_e, ↓p1_I, ↓p1_O, z_gl, z_st1, z_st2, z_nl_I, z_nl_O, z_nl_J, z_nl_L, if_true, if_false, ite_true, ite_false, true_and, and_true, List.mem_cons, List.not_mem_nil, or_false, false_or, or_self, List.length_cons, List.length_nil, InR_t, InL_t, z_ix_t, mI_s1, mI_s2, ↓brT, ↓brF, ↓brT', ↓brF', mL_sI, mR_sI, mK_sI, mS_sI, mI_sL, mL_s1, mL_s2, mR_sL, mK_sL, mS_sL, mI_sR, mL_sR, mR_s1, mR_s2, mK_sR, mS_sR, mA_s1, mA_s2, mL_sA, mR_sA, mK_sA, mS_sA, ix_n, ix_a, ix_m, ix_s, z_sw, z_stop, forall_const, true_implies, false_implies, imp_self, implies_true, not_true_eq_false, not_false_eq_true, ne_eq, eq_self, Option.some.injEq, reduceCtorEq, Nat.reduceAdd, Nat.reduceSub, Nat.reduceMul, Nat.reduceEqDiff, Nat.reduceLT, Nat.reduceLeDiff, Int.reduceAdd, Int.reduceMul, Int.reduceSub, Int.reduceNeg, Int.reduceToNat, Int.reduceLT, Int.reduceLE, Int.reduceEq, ↓reduceIte, List.reverse_cons, Option.toList, List.cons_append, List.nil_append, vI_inj, vL_inj, vO_inj, rI, rL, rO, rV, mI_sQ, mL_sQ, mK_sQ, mS_sQ, mQ_s1, mQ_s2, iL_and, iL_or, iL_xor, iL_shl, iL_ushr, iR_and, iR_or, iR_xor, iR_shl, iR_shr, iR_ushr, iR_cmp, yc0, tlX8_version, tkX8_version, o_aload, o_getR, o_goto, o_iadd, o_iald, o_ic, o_icge, o_icne, o_ifeq, o_iload, o_imul, o_iret]
      try simp +contextual (disch := omega) only [impF, impT, and_true, true_and, implies_true, not_false_eq_true, not_true_eq_false]
      rw [← hQ]
      exact ⟨rfl, hM0, MF.rf⟩
    · rw [show decide (-1 ≤ i) = true by simp; omega] at hQ
      simp only [Bool.and_self, if_true] at hQ
      by_cases h2 : i = -1
      · rw [if_pos h2] at hQ
        refine z_run1 tsX8_version [] 20 ?_
        simp (maxSteps := 1000000) -implicitDefEqProofs +contextual (disch := omega) only [z_wp_t, z_wp_u, ↓pI_e, ↓pL_e, ↓pO_e, ↓pR_e, ↓p1_I, ↓p1_O, z_gl, z_st1, z_st2, z_nl_I, z_nl_O, z_nl_J, z_nl_L, if_true, if_false, ite_true, ite_false, true_and, and_true, List.mem_cons, List.not_mem_nil, or_false, false_or, or_self, List.length_cons, List.length_nil, InR_t, InL_t, z_ix_t, mI_s1, mI_s2, ↓brT, ↓brF, ↓brT', ↓brF', mL_sI, mR_sI, mK_sI, mS_sI, mI_sL, mL_s1, mL_s2, mR_sL, mK_sL, mS_sL, mI_sR, mL_sR, mR_s1, mR_s2, mK_sR, mS_sR, mA_s1, mA_s2, mL_sA, mR_sA, mK_sA, mS_sA, ix_n, ix_a, ix_m, ix_s, z_sw, z_stop, forall_const, true_implies, false_implies, imp_self, implies_true, not_true_eq_false, not_false_eq_true, ne_eq, eq_self, Option.some.injEq, reduceCtorEq, Nat.reduceAdd, Nat.reduceSub, Nat.reduceMul, Nat.reduceEqDiff, Nat.reduceLT, Nat.reduceLeDiff, Int.reduceAdd, Int.reduceMul, Int.reduceSub, Int.reduceNeg, Int.reduceToNat, Int.reduceLT, Int.reduceLE, Int.reduceEq, ↓reduceIte, List.reverse_cons, Option.toList, List.cons_append, List.nil_append, vI_inj, vL_inj, vO_inj, rI, rL, rO, rV, mI_sQ, mL_sQ, mK_sQ, mS_sQ, mQ_s1, mQ_s2, iL_and, iL_or, iL_xor, iL_shl, iL_ushr, iR_and, iR_or, iR_xor, iR_shl, iR_shr, iR_ushr, iR_cmp, yc0, tlX8_version, tkX8_version, o_aload, o_getR, o_goto, o_iadd, o_iald, o_ic, o_icge, o_icne, o_ifeq, o_iload, o_imul, o_iret, k0, k94, r0, hn, h2]
        try simp +contextual (disch := omega) only [impF, impT, and_true, true_and, implies_true, not_false_eq_true, not_true_eq_false]
        rw [← hQ]
        exact ⟨rfl, hM0, MF.rf⟩
      · rw [if_neg h2] at hQ
        obtain ⟨I, rfl⟩ := Int.eq_ofNat_of_zero_le (a := i) (by omega)
        rw [Int.toNat_natCast] at hQ
        by_cases h3 : (I : Int) < (aN (sW s) P : Int)
        · rw [if_pos h3] at hQ
          have hv := hm.2.1 P I hP (by omega)
          refine z_run1 tsX8_version [] 30 ?_
          simp (maxSteps := 1000000) -implicitDefEqProofs +contextual (disch := omega) only [z_wp_t, z_wp_u, ↓pI_e, ↓pL_e, ↓pO_e, ↓pR_e, ↓p1_I, ↓p1_O, z_gl, z_st1, z_st2, z_nl_I, z_nl_O, z_nl_J, z_nl_L, if_true, if_false, ite_true, ite_false, true_and, and_true, List.mem_cons, List.not_mem_nil, or_false, false_or, or_self, List.length_cons, List.length_nil, InR_t, InL_t, z_ix_t, mI_s1, mI_s2, ↓brT, ↓brF, ↓brT', ↓brF', mL_sI, mR_sI, mK_sI, mS_sI, mI_sL, mL_s1, mL_s2, mR_sL, mK_sL, mS_sL, mI_sR, mL_sR, mR_s1, mR_s2, mK_sR, mS_sR, mA_s1, mA_s2, mL_sA, mR_sA, mK_sA, mS_sA, ix_n, ix_a, ix_m, ix_s, z_sw, z_stop, forall_const, true_implies, false_implies, imp_self, implies_true, not_true_eq_false, not_false_eq_true, ne_eq, eq_self, Option.some.injEq, reduceCtorEq, Nat.reduceAdd, Nat.reduceSub, Nat.reduceMul, Nat.reduceEqDiff, Nat.reduceLT, Nat.reduceLeDiff, Int.reduceAdd, Int.reduceMul, Int.reduceSub, Int.reduceNeg, Int.reduceToNat, Int.reduceLT, Int.reduceLE, Int.reduceEq, ↓reduceIte, List.reverse_cons, Option.toList, List.cons_append, List.nil_append, vI_inj, vL_inj, vO_inj, rI, rL, rO, rV, mI_sQ, mL_sQ, mK_sQ, mS_sQ, mQ_s1, mQ_s2, iL_and, iL_or, iL_xor, iL_shl, iL_ushr, iR_and, iR_or, iR_xor, iR_shl, iR_shr, iR_ushr, iR_cmp, yc0, tlX8_version, tkX8_version, o_aload, o_getR, o_goto, o_iadd, o_iald, o_ic, o_icge, o_icne, o_ifeq, o_iload, o_imul, o_iret, k0, k94, r0, hn, hv]
          try simp +contextual (disch := omega) only [impF, impT, and_true, true_and, implies_true, not_false_eq_true, not_true_eq_false]
          rw [← hQ]
          exact ⟨rfl, hM0, MF.rf⟩
        · rw [if_neg h3] at hQ
          refine z_run1 tsX8_version [] 30 ?_
          simp (maxSteps := 1000000) -implicitDefEqProofs +contextual (disch := omega) only [z_wp_t, z_wp_u, ↓pI_e, ↓pL_e, ↓pO_e, ↓pR_e, ↓p1_I, ↓p1_O, z_gl, z_st1, z_st2, z_nl_I, z_nl_O, z_nl_J, z_nl_L, if_true, if_false, ite_true, ite_false, true_and, and_true, List.mem_cons, List.not_mem_nil, or_false, false_or, or_self, List.length_cons, List.length_nil, InR_t, InL_t, z_ix_t, mI_s1, mI_s2, ↓brT, ↓brF, ↓brT', ↓brF', mL_sI, mR_sI, mK_sI, mS_sI, mI_sL, mL_s1, mL_s2, mR_sL, mK_sL, mS_sL, mI_sR, mL_sR, mR_s1, mR_s2, mK_sR, mS_sR, mA_s1, mA_s2, mL_sA, mR_sA, mK_sA, mS_sA, ix_n, ix_a, ix_m, ix_s, z_sw, z_stop, forall_const, true_implies, false_implies, imp_self, implies_true, not_true_eq_false, not_false_eq_true, ne_eq, eq_self, Option.some.injEq, reduceCtorEq, Nat.reduceAdd, Nat.reduceSub, Nat.reduceMul, Nat.reduceEqDiff, Nat.reduceLT, Nat.reduceLeDiff, Int.reduceAdd, Int.reduceMul, Int.reduceSub, Int.reduceNeg, Int.reduceToNat, Int.reduceLT, Int.reduceLE, Int.reduceEq, ↓reduceIte, List.reverse_cons, Option.toList, List.cons_append, List.nil_append, vI_inj, vL_inj, vO_inj, rI, rL, rO, rV, mI_sQ, mL_sQ, mK_sQ, mS_sQ, mQ_s1, mQ_s2, iL_and, iL_or, iL_xor, iL_shl, iL_ushr, iR_and, iR_or, iR_xor, iR_shl, iR_shr, iR_ushr, iR_cmp, yc0, tlX8_version, tkX8_version, o_aload, o_getR, o_goto, o_iadd, o_iald, o_ic, o_icge, o_icne, o_ifeq, o_iload, o_imul, o_iret, k0, k94, r0, hn]
          try simp +contextual (disch := omega) only [impF, impT, and_true, true_and, implies_true, not_false_eq_true, not_true_eq_false]
          rw [← hQ]
          exact ⟨rfl, hM0, MF.rf⟩
