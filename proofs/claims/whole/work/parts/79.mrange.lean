/-! the reference: range -/
def btw (a b : Int) : Nat → Bool := fun w => decide (a ≤ (w : Int) ∧ (w : Int) ≤ b)
theorem nw_btw (a b c d : Int) : nwX (btw a b) c d = btw (if a < c then c else a) (if d < b then d else b) := by
  funext w
  unfold nwX btw
  apply Bool.eq_iff_iff.mpr
  simp only [Bool.and_eq_true, decide_eq_true_eq]
  split <;> split <;> omega
def rpQ (h : zH) (t : Nat → Int) (n : Nat) (y : Bool × Nat × Int × Int) (h' : zH) : Prop := RK h h' ∧ gI h' 97 = gI h 97 ∧ ((RS h' t n y.2.1 (-1) ∧ y.1 = true ∧ PB h' (btw y.2.2.1 y.2.2.2)) ∨ ∃ j, RS h' t n j (y.2.1 : Int) ∧ (y.1 = true → ck t n y.2.1 = 46))
theorem pPl_x {t : Nat → Int} {n : Nat} {x : Bool × Nat × Int × Int} (h : (x.1 && sb (ck t n x.2.1)) = false) : ∀ m, pPl t n m x = x
  | 0 => rfl
  | m + 1 => by
    simp only [pPl]
    rw [if_neg (by rw [h]; decide)]
theorem rg_in (l : Launch) (G : zG) (h0 : zH) (QQ : Option zV → zH → Prop) (t : Nat → Int) (n : Nat) (to k3 : Int) (y : Bool × Nat × Int × Int) (lv : Nat) (hlv : 5 ≤ lv) (K : ∀ h', rpQ h0 t n y h' → z_X l G mtX8_range lv 0 0 (QQ) 0 0 (h') 84 [vR 93, vI to, vI 1, vI k3] []) : ∀ (m : Nat) (x : Bool × Nat × Int × Int) (h : zH), (x.1 = true → n ≤ x.2.1 + m) → y = pPl t n m x → rpQ h0 t n x h → z_X l G mtX8_range lv 0 0 (QQ) 0 0 (h) 62 [vR 93, vI to, vI 1, vI k3] [] := by
  have stop : ∀ (x : Bool × Nat × Int × Int) (h : zH), y = x → rpQ h0 t n x h → (x.1 && sb (ck t n x.2.1)) = false → z_X l G mtX8_range lv 0 0 (QQ) 0 0 (h) 62 [vR 93, vI to, vI 1, vI k3] [] := by
    intro x h hy hx hs
    have hnx := K h (by rw [hy]; exact hx)
    clear K
    obtain ⟨a1, a2, ⟨a3, a4, a5⟩ | ⟨j, a3, a4⟩⟩ := hx
    · have c0 := a3.1.1
      have e8 := a3.2.2.2.2.1
      have hbd := sm_isBound l G h t n x.2.1 (-1) a3 3 (by omega)
      rw [a4, Bool.true_and] at hs
      rw [hs, show b01 false = 0 from rfl] at hbd
      clear a5
      refine z_run1 tsX8_range [] 20 ?_
      simp (maxSteps := 1000000) -implicitDefEqProofs +contextual (disch := omega) only [z_wp_t, z_wp_u, ↓pI_e, ↓pL_e, ↓pO_e, ↓pR_e, ↓p1_I, ↓p1_O, z_gl, z_st1, z_st2, z_nl_I, z_nl_O, z_nl_J, z_nl_L, if_true, if_false, ite_true, ite_false, true_and, and_true, List.mem_cons, List.not_mem_nil, or_false, false_or, or_self, List.length_cons, List.length_nil, InR_t, InL_t, z_ix_t, mI_s1, mI_s2, ↓brT, ↓brF, ↓brT', ↓brF', mL_sI, mR_sI, mK_sI, mS_sI, mI_sL, mL_s1, mL_s2, mR_sL, mK_sL, mS_sL, mI_sR, mL_sR, mR_s1, mR_s2, mK_sR, mS_sR, mA_s1, mA_s2, mL_sA, mR_sA, mK_sA, mS_sA, ix_n, ix_a, ix_m, ix_s, z_sw, z_stop, forall_const, true_implies, false_implies, imp_self, implies_true, not_true_eq_false, not_false_eq_true, ne_eq, eq_self, Option.some.injEq, reduceCtorEq, Nat.reduceAdd, Nat.reduceSub, Nat.reduceMul, Nat.reduceEqDiff, Nat.reduceLT, Nat.reduceLeDiff, Int.reduceAdd, Int.reduceMul, Int.reduceSub, Int.reduceNeg, Int.reduceToNat, Int.reduceLT, Int.reduceLE, Int.reduceEq, ↓reduceIte, List.reverse_cons, Option.toList, List.cons_append, List.nil_append, vI_inj, vL_inj, vO_inj, rI, rL, rO, rV, mI_sQ, mL_sQ, mK_sQ, mS_sQ, mQ_s1, mQ_s2, iL_and, iL_or, iL_xor, iL_shl, iL_ushr, iR_and, iR_or, iR_xor, iR_shl, iR_shr, iR_ushr, iR_cmp, yc0, tlX8_range, tkX8_range, o_aload, o_dup, o_dup2, o_getI, o_getR, o_goto, o_iadd, o_iald, o_iast, o_ic, o_icge, o_icne, o_ifeq, o_iinc, o_iload, o_ior, o_istore, o_putI, o_vret, c0, e8]
      try simp +contextual (disch := omega) only [impF, impT, and_true, true_and, implies_true, not_false_eq_true, not_true_eq_false]
      refine x_callV (by decide +kernel) cv_X8_102 (hbd) c0 (by omega) rfl (by omega) (by omega) rfl (Nat.le_of_ble_eq_true rfl) ?_
      rintro r h' ⟨rfl, hE⟩
      subst h'
      refine z_run1 tsX8_range [84] 20 ?_
      simp (maxSteps := 1000000) -implicitDefEqProofs +contextual (disch := omega) only [z_wp_t, z_wp_u, ↓pI_e, ↓pL_e, ↓pO_e, ↓pR_e, ↓p1_I, ↓p1_O, z_gl, z_st1, z_st2, z_nl_I, z_nl_O, z_nl_J, z_nl_L, if_true, if_false, ite_true, ite_false, true_and, and_true, List.mem_cons, List.not_mem_nil, or_false, false_or, or_self, List.length_cons, List.length_nil, InR_t, InL_t, z_ix_t, mI_s1, mI_s2, ↓brT, ↓brF, ↓brT', ↓brF', mL_sI, mR_sI, mK_sI, mS_sI, mI_sL, mL_s1, mL_s2, mR_sL, mK_sL, mS_sL, mI_sR, mL_sR, mR_s1, mR_s2, mK_sR, mS_sR, mA_s1, mA_s2, mL_sA, mR_sA, mK_sA, mS_sA, ix_n, ix_a, ix_m, ix_s, z_sw, z_stop, forall_const, true_implies, false_implies, imp_self, implies_true, not_true_eq_false, not_false_eq_true, ne_eq, eq_self, Option.some.injEq, reduceCtorEq, Nat.reduceAdd, Nat.reduceSub, Nat.reduceMul, Nat.reduceEqDiff, Nat.reduceLT, Nat.reduceLeDiff, Int.reduceAdd, Int.reduceMul, Int.reduceSub, Int.reduceNeg, Int.reduceToNat, Int.reduceLT, Int.reduceLE, Int.reduceEq, ↓reduceIte, List.reverse_cons, Option.toList, List.cons_append, List.nil_append, vI_inj, vL_inj, vO_inj, rI, rL, rO, rV, mI_sQ, mL_sQ, mK_sQ, mS_sQ, mQ_s1, mQ_s2, iL_and, iL_or, iL_xor, iL_shl, iL_ushr, iR_and, iR_or, iR_xor, iR_shl, iR_shr, iR_ushr, iR_cmp, yc0, tlX8_range, tkX8_range, o_aload, o_dup, o_dup2, o_getI, o_getR, o_goto, o_iadd, o_iald, o_iast, o_ic, o_icge, o_icne, o_ifeq, o_iinc, o_iload, o_ior, o_istore, o_putI, o_vret]
      try simp +contextual (disch := omega) only [impF, impT, and_true, true_and, implies_true, not_false_eq_true, not_true_eq_false]
      exact hnx
    · have c0 := a3.1.1
      have e8 := a3.2.2.2.2.1
      have hj := a3.2.2.2.2.2
      clear a4
      refine z_run1 tsX8_range [84] 20 ?_
      simp (maxSteps := 1000000) -implicitDefEqProofs +contextual (disch := omega) only [z_wp_t, z_wp_u, ↓pI_e, ↓pL_e, ↓pO_e, ↓pR_e, ↓p1_I, ↓p1_O, z_gl, z_st1, z_st2, z_nl_I, z_nl_O, z_nl_J, z_nl_L, if_true, if_false, ite_true, ite_false, true_and, and_true, List.mem_cons, List.not_mem_nil, or_false, false_or, or_self, List.length_cons, List.length_nil, InR_t, InL_t, z_ix_t, mI_s1, mI_s2, ↓brT, ↓brF, ↓brT', ↓brF', mL_sI, mR_sI, mK_sI, mS_sI, mI_sL, mL_s1, mL_s2, mR_sL, mK_sL, mS_sL, mI_sR, mL_sR, mR_s1, mR_s2, mK_sR, mS_sR, mA_s1, mA_s2, mL_sA, mR_sA, mK_sA, mS_sA, ix_n, ix_a, ix_m, ix_s, z_sw, z_stop, forall_const, true_implies, false_implies, imp_self, implies_true, not_true_eq_false, not_false_eq_true, ne_eq, eq_self, Option.some.injEq, reduceCtorEq, Nat.reduceAdd, Nat.reduceSub, Nat.reduceMul, Nat.reduceEqDiff, Nat.reduceLT, Nat.reduceLeDiff, Int.reduceAdd, Int.reduceMul, Int.reduceSub, Int.reduceNeg, Int.reduceToNat, Int.reduceLT, Int.reduceLE, Int.reduceEq, ↓reduceIte, List.reverse_cons, Option.toList, List.cons_append, List.nil_append, vI_inj, vL_inj, vO_inj, rI, rL, rO, rV, mI_sQ, mL_sQ, mK_sQ, mS_sQ, mQ_s1, mQ_s2, iL_and, iL_or, iL_xor, iL_shl, iL_ushr, iR_and, iR_or, iR_xor, iR_shl, iR_shr, iR_ushr, iR_cmp, yc0, tlX8_range, tkX8_range, o_aload, o_dup, o_dup2, o_getI, o_getR, o_goto, o_iadd, o_iald, o_iast, o_ic, o_icge, o_icne, o_ifeq, o_iinc, o_iload, o_ior, o_istore, o_putI, o_vret, c0, e8]
      try simp +contextual (disch := omega) only [impF, impT, and_true, true_and, implies_true, not_false_eq_true, not_true_eq_false]
      exact hnx
  intro m
  induction m with
  | zero =>
    intro x h hm hy hx
    refine stop x h hy hx ?_
    cases hx1 : x.1
    · rfl
    · have := hm hx1
      have : ck t n x.2.1 = -1 := by unfold ck; rw [if_neg (by omega)]
      rw [this, show sb (-1) = false by decide, Bool.and_false]
  | succ m ih =>
    intro x h hm hy hx
    cases hs : (x.1 && sb (ck t n x.2.1))
    · rw [pPl_x hs] at hy
      exact stop x h hy hx hs
    · simp only [pPl] at hy
      rw [if_pos hs] at hy
      simp only [Bool.and_eq_true] at hs
      have hm := hm hs.1
      obtain ⟨a1, a2, ⟨a3, a4, a5⟩ | ⟨j, a3, a4⟩⟩ := hx
      · have c0 := a3.1.1
        have e8 := a3.2.2.2.2.1
        have hbd := sm_isBound l G h t n x.2.1 (-1) a3 3 (by omega)
        rw [hs.2, show b01 true = 1 from rfl] at hbd
        have hbo := sm_bound l G h t n x.2.1 (btw x.2.2.1 x.2.2.2) a3 a5 4 (by omega)
        have hpo := pBnd_ok (t := t) a3.2.2.2.1
        have hnx : ∀ h2, rvQ h t n (btw x.2.2.1 x.2.2.2) (pBnd t n x.2.1) none h2 → z_X l G mtX8_range lv 0 0 (QQ) 0 0 (h2) 62 [vR 93, vI to, vI 1, vI k3] [] := by
          intro h2 hq
          refine ih _ h2 (fun q => ?_) hy ?_
          · have := (hpo.2.2 q).1
            show n ≤ (pBnd t n x.2.1).2.1 + m
            omega
          · obtain ⟨-, b1, b2, b3⟩ := hq
            refine ⟨a1.tr b1, b2.trans a2, ?_⟩
            rw [nw_btw] at b3
            exact b3
        clear stop ih K a5
        refine z_run1 tsX8_range [] 20 ?_
        simp (maxSteps := 1000000) -implicitDefEqProofs +contextual (disch := omega) only [z_wp_t, z_wp_u, ↓pI_e, ↓pL_e, ↓pO_e, ↓pR_e, ↓p1_I, ↓p1_O, z_gl, z_st1, z_st2, z_nl_I, z_nl_O, z_nl_J, z_nl_L, if_true, if_false, ite_true, ite_false, true_and, and_true, List.mem_cons, List.not_mem_nil, or_false, false_or, or_self, List.length_cons, List.length_nil, InR_t, InL_t, z_ix_t, mI_s1, mI_s2, ↓brT, ↓brF, ↓brT', ↓brF', mL_sI, mR_sI, mK_sI, mS_sI, mI_sL, mL_s1, mL_s2, mR_sL, mK_sL, mS_sL, mI_sR, mL_sR, mR_s1, mR_s2, mK_sR, mS_sR, mA_s1, mA_s2, mL_sA, mR_sA, mK_sA, mS_sA, ix_n, ix_a, ix_m, ix_s, z_sw, z_stop, forall_const, true_implies, false_implies, imp_self, implies_true, not_true_eq_false, not_false_eq_true, ne_eq, eq_self, Option.some.injEq, reduceCtorEq, Nat.reduceAdd, Nat.reduceSub, Nat.reduceMul, Nat.reduceEqDiff, Nat.reduceLT, Nat.reduceLeDiff, Int.reduceAdd, Int.reduceMul, Int.reduceSub, Int.reduceNeg, Int.reduceToNat, Int.reduceLT, Int.reduceLE, Int.reduceEq, ↓reduceIte, List.reverse_cons, Option.toList, List.cons_append, List.nil_append, vI_inj, vL_inj, vO_inj, rI, rL, rO, rV, mI_sQ, mL_sQ, mK_sQ, mS_sQ, mQ_s1, mQ_s2, iL_and, iL_or, iL_xor, iL_shl, iL_ushr, iR_and, iR_or, iR_xor, iR_shl, iR_shr, iR_ushr, iR_cmp, yc0, tlX8_range, tkX8_range, o_aload, o_dup, o_dup2, o_getI, o_getR, o_goto, o_iadd, o_iald, o_iast, o_ic, o_icge, o_icne, o_ifeq, o_iinc, o_iload, o_ior, o_istore, o_putI, o_vret, c0, e8]
        try simp +contextual (disch := omega) only [impF, impT, and_true, true_and, implies_true, not_false_eq_true, not_true_eq_false]
        refine x_callV (by decide +kernel) cv_X8_102 (hbd) c0 (by omega) rfl (by omega) (by omega) rfl (Nat.le_of_ble_eq_true rfl) ?_
        rintro r h' ⟨rfl, hE⟩
        subst h'
        refine z_run1 tsX8_range [] 20 ?_
        simp (maxSteps := 1000000) -implicitDefEqProofs +contextual (disch := omega) only [z_wp_t, z_wp_u, ↓pI_e, ↓pL_e, ↓pO_e, ↓pR_e, ↓p1_I, ↓p1_O, z_gl, z_st1, z_st2, z_nl_I, z_nl_O, z_nl_J, z_nl_L, if_true, if_false, ite_true, ite_false, true_and, and_true, List.mem_cons, List.not_mem_nil, or_false, false_or, or_self, List.length_cons, List.length_nil, InR_t, InL_t, z_ix_t, mI_s1, mI_s2, ↓brT, ↓brF, ↓brT', ↓brF', mL_sI, mR_sI, mK_sI, mS_sI, mI_sL, mL_s1, mL_s2, mR_sL, mK_sL, mS_sL, mI_sR, mL_sR, mR_s1, mR_s2, mK_sR, mS_sR, mA_s1, mA_s2, mL_sA, mR_sA, mK_sA, mS_sA, ix_n, ix_a, ix_m, ix_s, z_sw, z_stop, forall_const, true_implies, false_implies, imp_self, implies_true, not_true_eq_false, not_false_eq_true, ne_eq, eq_self, Option.some.injEq, reduceCtorEq, Nat.reduceAdd, Nat.reduceSub, Nat.reduceMul, Nat.reduceEqDiff, Nat.reduceLT, Nat.reduceLeDiff, Int.reduceAdd, Int.reduceMul, Int.reduceSub, Int.reduceNeg, Int.reduceToNat, Int.reduceLT, Int.reduceLE, Int.reduceEq, ↓reduceIte, List.reverse_cons, Option.toList, List.cons_append, List.nil_append, vI_inj, vL_inj, vO_inj, rI, rL, rO, rV, mI_sQ, mL_sQ, mK_sQ, mS_sQ, mQ_s1, mQ_s2, iL_and, iL_or, iL_xor, iL_shl, iL_ushr, iR_and, iR_or, iR_xor, iR_shl, iR_shr, iR_ushr, iR_cmp, yc0, tlX8_range, tkX8_range, o_aload, o_dup, o_dup2, o_getI, o_getR, o_goto, o_iadd, o_iald, o_iast, o_ic, o_icge, o_icne, o_ifeq, o_iinc, o_iload, o_ior, o_istore, o_putI, o_vret]
        try simp +contextual (disch := omega) only [impF, impT, and_true, true_and, implies_true, not_false_eq_true, not_true_eq_false]
        refine x_callV (by decide +kernel) cv_X8_118 (hbo) c0 (by omega) rfl (by omega) (by omega) rfl (Nat.le_of_ble_eq_true rfl) ?_
        intro r h2 hq
        obtain rfl := hq.1
        have hnx := hnx h2 hq
        clear hq hbo hbd
        refine z_run1 tsX8_range [62] 20 ?_
        simp (maxSteps := 1000000) -implicitDefEqProofs +contextual (disch := omega) only [z_wp_t, z_wp_u, ↓pI_e, ↓pL_e, ↓pO_e, ↓pR_e, ↓p1_I, ↓p1_O, z_gl, z_st1, z_st2, z_nl_I, z_nl_O, z_nl_J, z_nl_L, if_true, if_false, ite_true, ite_false, true_and, and_true, List.mem_cons, List.not_mem_nil, or_false, false_or, or_self, List.length_cons, List.length_nil, InR_t, InL_t, z_ix_t, mI_s1, mI_s2, ↓brT, ↓brF, ↓brT', ↓brF', mL_sI, mR_sI, mK_sI, mS_sI, mI_sL, mL_s1, mL_s2, mR_sL, mK_sL, mS_sL, mI_sR, mL_sR, mR_s1, mR_s2, mK_sR, mS_sR, mA_s1, mA_s2, mL_sA, mR_sA, mK_sA, mS_sA, ix_n, ix_a, ix_m, ix_s, z_sw, z_stop, forall_const, true_implies, false_implies, imp_self, implies_true, not_true_eq_false, not_false_eq_true, ne_eq, eq_self, Option.some.injEq, reduceCtorEq, Nat.reduceAdd, Nat.reduceSub, Nat.reduceMul, Nat.reduceEqDiff, Nat.reduceLT, Nat.reduceLeDiff, Int.reduceAdd, Int.reduceMul, Int.reduceSub, Int.reduceNeg, Int.reduceToNat, Int.reduceLT, Int.reduceLE, Int.reduceEq, ↓reduceIte, List.reverse_cons, Option.toList, List.cons_append, List.nil_append, vI_inj, vL_inj, vO_inj, rI, rL, rO, rV, mI_sQ, mL_sQ, mK_sQ, mS_sQ, mQ_s1, mQ_s2, iL_and, iL_or, iL_xor, iL_shl, iL_ushr, iR_and, iR_or, iR_xor, iR_shl, iR_shr, iR_ushr, iR_cmp, yc0, tlX8_range, tkX8_range, o_aload, o_dup, o_dup2, o_getI, o_getR, o_goto, o_iadd, o_iald, o_iast, o_ic, o_icge, o_icne, o_ifeq, o_iinc, o_iload, o_ior, o_istore, o_putI, o_vret]
        try simp +contextual (disch := omega) only [impF, impT, and_true, true_and, implies_true, not_false_eq_true, not_true_eq_false]
        exact hnx
      · have := a4 hs.1
        rw [this] at hs
        exact absurd hs.2 (by decide)
theorem rg_pt (l : Launch) (G : zG) (h : zH) (QQ : Option zV → zH → Prop) (t : Nat → Int) (n i : Nat) (to : Int) (hR : RS h t n i (-1)) (lv : Nat) (hlv : 5 ≤ lv) (K : ∀ h', rpQ h t n (pPart t n i) h' → z_X l G mtX8_range lv 0 0 (QQ) 0 0 (h') 84 [vR 93, vI to, vI 1, vI 32] []) : ∀ (d k : Nat) (g : Nat → Int), k + d = 32 → (∀ q, q < k → g q = -1) → z_X l G mtX8_range lv 0 0 (QQ) 0 0 (sA h 98 g) 39 [vR 93, vI to, vI 1, vI k] [] := by
  have c0 := hR.1.1
  have c98 := hR.1.2.1.2.2.2.2.1
  have s6 := hR.1.2.2.2.1.2.2.2.2.1
  intro d
  induction d with
  | zero =>
    intro k g hk hg
    obtain rfl : k = 32 := by omega
    have hR1 := hR.ar g (Or.inr rfl : (98 : Nat) = 97 ∨ (98 : Nat) = 98)
    have hX1 : PB (sA h 98 g) (fun _ => true) := fun v hv => by
      rw [mA_s1, hg _ (by omega), tb_m1]
      simp
      omega
    have hbo := sm_bound l G _ t n i (fun _ => true) hR1 hX1 4 (by omega)
    have hn := hR.n40
    have hpo := pBnd_ok (t := t) hR.2.2.2.1
    have hnx : ∀ h2, rvQ (sA h 98 g) t n (fun _ => true) (pBnd t n i) none h2 → z_X l G mtX8_range lv 0 0 (QQ) 0 0 (h2) 62 [vR 93, vI to, vI 1, vI 32] [] := by
      intro h2 hq
      refine rg_in l G h QQ t n to 32 (pPart t n i) lv hlv K 40 _ h2 (fun _ => by omega) rfl ?_
      obtain ⟨-, b1, b2, b3⟩ := hq
      refine ⟨RK.tr (RK.a (Or.inr rfl)) b1, b2.trans (mI_sAn _ _ (by omega)), ?_⟩
      rcases b3 with ⟨b4, b5, b6⟩ | b3
      · refine Or.inl ⟨b4, b5, fun v hv => ?_⟩
        rw [b6 v hv]
        unfold nwX btw
        rw [Bool.true_and]
        congr 1
        apply propext
        simp only
        split <;> split <;> omega
      · exact Or.inr b3
    clear K hg hX1
    refine z_run1 tsX8_range [] 20 ?_
    simp (maxSteps := 1000000) -implicitDefEqProofs +contextual (disch := omega) only [z_wp_t, z_wp_u, ↓pI_e, ↓pL_e, ↓pO_e, ↓pR_e, ↓p1_I, ↓p1_O, z_gl, z_st1, z_st2, z_nl_I, z_nl_O, z_nl_J, z_nl_L, if_true, if_false, ite_true, ite_false, true_and, and_true, List.mem_cons, List.not_mem_nil, or_false, false_or, or_self, List.length_cons, List.length_nil, InR_t, InL_t, z_ix_t, mI_s1, mI_s2, ↓brT, ↓brF, ↓brT', ↓brF', mL_sI, mR_sI, mK_sI, mS_sI, mI_sL, mL_s1, mL_s2, mR_sL, mK_sL, mS_sL, mI_sR, mL_sR, mR_s1, mR_s2, mK_sR, mS_sR, mA_s1, mA_s2, mL_sA, mR_sA, mK_sA, mS_sA, ix_n, ix_a, ix_m, ix_s, z_sw, z_stop, forall_const, true_implies, false_implies, imp_self, implies_true, not_true_eq_false, not_false_eq_true, ne_eq, eq_self, Option.some.injEq, reduceCtorEq, Nat.reduceAdd, Nat.reduceSub, Nat.reduceMul, Nat.reduceEqDiff, Nat.reduceLT, Nat.reduceLeDiff, Int.reduceAdd, Int.reduceMul, Int.reduceSub, Int.reduceNeg, Int.reduceToNat, Int.reduceLT, Int.reduceLE, Int.reduceEq, ↓reduceIte, List.reverse_cons, Option.toList, List.cons_append, List.nil_append, vI_inj, vL_inj, vO_inj, rI, rL, rO, rV, mI_sQ, mL_sQ, mK_sQ, mS_sQ, mQ_s1, mQ_s2, iL_and, iL_or, iL_xor, iL_shl, iL_ushr, iR_and, iR_or, iR_xor, iR_shl, iR_shr, iR_ushr, iR_cmp, yc0, tlX8_range, tkX8_range, o_aload, o_dup, o_dup2, o_getI, o_getR, o_goto, o_iadd, o_iald, o_iast, o_ic, o_icge, o_icne, o_ifeq, o_iinc, o_iload, o_ior, o_istore, o_putI, o_vret]
    try simp +contextual (disch := omega) only [impF, impT, and_true, true_and, implies_true, not_false_eq_true, not_true_eq_false]
    refine x_callV (by decide +kernel) cv_X8_118 (hbo) c0 (by omega) rfl (by omega) (by omega) rfl (Nat.le_of_ble_eq_true rfl) ?_
    intro r h2 hq
    obtain rfl := hq.1
    exact hnx h2 hq
  | succ d ih =>
    intro k g hk hg
    have hnx := ih (k + 1) (up g k (-1)) (by omega) (fun q hq => by
      by_cases e : q = k
      · rw [e, up_s]
      · rw [up_n _ _ e]; exact hg q (by omega))
    clear ih K hg
    refine z_run1 tsX8_range [39] 20 ?_
    simp (maxSteps := 1000000) -implicitDefEqProofs +contextual (disch := omega) only [z_wp_t, z_wp_u, ↓pI_e, ↓pL_e, ↓pO_e, ↓pR_e, ↓p1_I, ↓p1_O, z_gl, z_st1, z_st2, z_nl_I, z_nl_O, z_nl_J, z_nl_L, if_true, if_false, ite_true, ite_false, true_and, and_true, List.mem_cons, List.not_mem_nil, or_false, false_or, or_self, List.length_cons, List.length_nil, InR_t, InL_t, z_ix_t, mI_s1, mI_s2, ↓brT, ↓brF, ↓brT', ↓brF', mL_sI, mR_sI, mK_sI, mS_sI, mI_sL, mL_s1, mL_s2, mR_sL, mK_sL, mS_sL, mI_sR, mL_sR, mR_s1, mR_s2, mK_sR, mS_sR, mA_s1, mA_s2, mL_sA, mR_sA, mK_sA, mS_sA, ix_n, ix_a, ix_m, ix_s, z_sw, z_stop, forall_const, true_implies, false_implies, imp_self, implies_true, not_true_eq_false, not_false_eq_true, ne_eq, eq_self, Option.some.injEq, reduceCtorEq, Nat.reduceAdd, Nat.reduceSub, Nat.reduceMul, Nat.reduceEqDiff, Nat.reduceLT, Nat.reduceLeDiff, Int.reduceAdd, Int.reduceMul, Int.reduceSub, Int.reduceNeg, Int.reduceToNat, Int.reduceLT, Int.reduceLE, Int.reduceEq, ↓reduceIte, List.reverse_cons, Option.toList, List.cons_append, List.nil_append, vI_inj, vL_inj, vO_inj, rI, rL, rO, rV, mI_sQ, mL_sQ, mK_sQ, mS_sQ, mQ_s1, mQ_s2, iL_and, iL_or, iL_xor, iL_shl, iL_ushr, iR_and, iR_or, iR_xor, iR_shl, iR_shr, iR_ushr, iR_cmp, yc0, tlX8_range, tkX8_range, o_aload, o_dup, o_dup2, o_getI, o_getR, o_goto, o_iadd, o_iald, o_iast, o_ic, o_icge, o_icne, o_ifeq, o_iinc, o_iload, o_ior, o_istore, o_putI, o_vret, c0, c98, s6, sI_sA]
    try simp +contextual (disch := omega) only [impF, impT, and_true, true_and, implies_true, not_false_eq_true, not_true_eq_false]
    exact hnx
theorem rg_or (l : Launch) (G : zG) (h : zH) (QQ : Option zV → zH → Prop) (to : Nat) (hto : to + 32 ≤ 68) (hS : ShM h) (lv : Nat) (hlv : 5 ≤ lv) (K : ∀ g : Nat → Int, (∀ k, g k = if to ≤ k ∧ k < to + 32 then z_or (gI h 97 k) (gI h 98 (k - to)) else gI h 97 k) → z_X l G mtX8_range lv 0 0 (QQ) 0 0 (sA h 97 g) 115 [vR 93, vI (to : Int), vI 1, vI 32] []) : ∀ (d i : Nat) (g : Nat → Int), i + d = 32 → (∀ k, g k = if to ≤ k ∧ k < to + i then z_or (gI h 97 k) (gI h 98 (k - to)) else gI h 97 k) → z_X l G mtX8_range lv 0 0 (QQ) 0 0 (sA h 97 g) 86 [vR 93, vI (to : Int), vI 1, vI i] [] := by
  have c0 := hS.1
  have c97 := hS.2.1.2.2.2.1
  have c98 := hS.2.1.2.2.2.2.1
  have s5 := hS.2.2.2.1.2.2.2.1
  have s6 := hS.2.2.2.1.2.2.2.2.1
  intro d
  induction d with
  | zero =>
    intro i g hi hg
    obtain rfl : i = 32 := by omega
    have hnx := K g hg
    clear K hg
    refine z_run1 tsX8_range [115] 20 ?_
    simp (maxSteps := 1000000) -implicitDefEqProofs +contextual (disch := omega) only [z_wp_t, z_wp_u, ↓pI_e, ↓pL_e, ↓pO_e, ↓pR_e, ↓p1_I, ↓p1_O, z_gl, z_st1, z_st2, z_nl_I, z_nl_O, z_nl_J, z_nl_L, if_true, if_false, ite_true, ite_false, true_and, and_true, List.mem_cons, List.not_mem_nil, or_false, false_or, or_self, List.length_cons, List.length_nil, InR_t, InL_t, z_ix_t, mI_s1, mI_s2, ↓brT, ↓brF, ↓brT', ↓brF', mL_sI, mR_sI, mK_sI, mS_sI, mI_sL, mL_s1, mL_s2, mR_sL, mK_sL, mS_sL, mI_sR, mL_sR, mR_s1, mR_s2, mK_sR, mS_sR, mA_s1, mA_s2, mL_sA, mR_sA, mK_sA, mS_sA, ix_n, ix_a, ix_m, ix_s, z_sw, z_stop, forall_const, true_implies, false_implies, imp_self, implies_true, not_true_eq_false, not_false_eq_true, ne_eq, eq_self, Option.some.injEq, reduceCtorEq, Nat.reduceAdd, Nat.reduceSub, Nat.reduceMul, Nat.reduceEqDiff, Nat.reduceLT, Nat.reduceLeDiff, Int.reduceAdd, Int.reduceMul, Int.reduceSub, Int.reduceNeg, Int.reduceToNat, Int.reduceLT, Int.reduceLE, Int.reduceEq, ↓reduceIte, List.reverse_cons, Option.toList, List.cons_append, List.nil_append, vI_inj, vL_inj, vO_inj, rI, rL, rO, rV, mI_sQ, mL_sQ, mK_sQ, mS_sQ, mQ_s1, mQ_s2, iL_and, iL_or, iL_xor, iL_shl, iL_ushr, iR_and, iR_or, iR_xor, iR_shl, iR_shr, iR_ushr, iR_cmp, yc0, tlX8_range, tkX8_range, o_aload, o_dup, o_dup2, o_getI, o_getR, o_goto, o_iadd, o_iald, o_iast, o_ic, o_icge, o_icne, o_ifeq, o_iinc, o_iload, o_ior, o_istore, o_putI, o_vret]
    try simp +contextual (disch := omega) only [impF, impT, and_true, true_and, implies_true, not_false_eq_true, not_true_eq_false]
    exact hnx
  | succ d ih =>
    intro i g hi hg
    have hgi := hg (to + i)
    rw [if_neg (by omega)] at hgi
    have hnx := ih (i + 1) (up g (to + i) (z_or (gI h 97 (to + i)) (gI h 98 i))) (by omega) (fun k => by
      by_cases e : k = to + i
      · rw [e, up_s, if_pos (by omega), show to + i - to = i by omega]
      · rw [up_n _ _ e, hg k]
        by_cases w : to ≤ k ∧ k < to + i
        · rw [if_pos w, if_pos (by omega)]
        · rw [if_neg w, if_neg (by omega)])
    clear ih K hg
    refine z_run1 tsX8_range [86] 40 ?_
    simp (maxSteps := 1000000) -implicitDefEqProofs +contextual (disch := omega) only [z_wp_t, z_wp_u, ↓pI_e, ↓pL_e, ↓pO_e, ↓pR_e, ↓p1_I, ↓p1_O, z_gl, z_st1, z_st2, z_nl_I, z_nl_O, z_nl_J, z_nl_L, if_true, if_false, ite_true, ite_false, true_and, and_true, List.mem_cons, List.not_mem_nil, or_false, false_or, or_self, List.length_cons, List.length_nil, InR_t, InL_t, z_ix_t, mI_s1, mI_s2, ↓brT, ↓brF, ↓brT', ↓brF', mL_sI, mR_sI, mK_sI, mS_sI, mI_sL, mL_s1, mL_s2, mR_sL, mK_sL, mS_sL, mI_sR, mL_sR, mR_s1, mR_s2, mK_sR, mS_sR, mA_s1, mA_s2, mL_sA, mR_sA, mK_sA, mS_sA, ix_n, ix_a, ix_m, ix_s, z_sw, z_stop, forall_const, true_implies, false_implies, imp_self, implies_true, not_true_eq_false, not_false_eq_true, ne_eq, eq_self, Option.some.injEq, reduceCtorEq, Nat.reduceAdd, Nat.reduceSub, Nat.reduceMul, Nat.reduceEqDiff, Nat.reduceLT, Nat.reduceLeDiff, Int.reduceAdd, Int.reduceMul, Int.reduceSub, Int.reduceNeg, Int.reduceToNat, Int.reduceLT, Int.reduceLE, Int.reduceEq, ↓reduceIte, List.reverse_cons, Option.toList, List.cons_append, List.nil_append, vI_inj, vL_inj, vO_inj, rI, rL, rO, rV, mI_sQ, mL_sQ, mK_sQ, mS_sQ, mQ_s1, mQ_s2, iL_and, iL_or, iL_xor, iL_shl, iL_ushr, iR_and, iR_or, iR_xor, iR_shl, iR_shr, iR_ushr, iR_cmp, yc0, tlX8_range, tkX8_range, o_aload, o_dup, o_dup2, o_getI, o_getR, o_goto, o_iadd, o_iald, o_iast, o_ic, o_icge, o_icne, o_ifeq, o_iinc, o_iload, o_ior, o_istore, o_putI, o_vret, c0, c97, c98, s5, s6, sI_sA, hgi]
    try simp +contextual (disch := omega) only [impF, impT, and_true, true_and, implies_true, not_false_eq_true, not_true_eq_false]
    exact hnx
def rrQ (h : zH) (t : Nat → Int) (n to : Nat) (x : Bool × Nat × List (Int × Int)) : Option zV → zH → Prop := fun r h' => r = none ∧ RK h h' ∧ (∀ k, k < to ∨ to + 32 ≤ k → gI h' 97 k = gI h 97 k) ∧ ((RS h' t n x.2.1 (-1) ∧ x.1 = true ∧ ∀ v : Nat, v < 1000 → tb (gI h' 97 (to + v / 32)) (v % 32) = inL x.2.2 (v : Int)) ∨ ∃ j, RS h' t n j (x.2.1 : Int) ∧ (x.1 = true → ck t n x.2.1 = 46))
theorem pPart_lt {t : Nat → Int} {n i : Nat} (hi : i ≤ n) (h : (pPart t n i).1 = true) : i < (pPart t n i).2.1 := by
  have hb := pBnd_ok (t := t) hi
  unfold pPart at h ⊢
  cases hp : (pBnd t n i).1
  · rw [pPl_x (by simp [hp])] at h
    simp only [hp] at h
    cases h
  · have := (hb.2.2 hp).1
    have h2 := pPl_ok (t := t) (n := n) 40 ((pBnd t n i).1, (pBnd t n i).2.1, (if 0 < (pBnd t n i).2.2.1 then (pBnd t n i).2.2.1 else 0), (if (pBnd t n i).2.2.2 < 999 then (pBnd t n i).2.2.2 else 999)) hb.2.1 (fun _ => by
      have := (hb.2.2 hp).2
      simp only
      split <;> split <;> omega)
    have h3 : (pBnd t n i).2.1 ≤ _ := h2.1
    rw [hp] at h3
    omega
theorem pRg_B {t : Nat → Int} {n i m : Nat} {acc : List (Int × Int)} (hi : i ≤ n) (hm : m = 0 → i = n) (hd : (pPart t n i).1 = true → ck t n (pPart t n i).2.1 = 46) : (pRg t n m i acc).2.1 = (pPart t n i).2.1 ∧ ((pRg t n m i acc).1 = true → ck t n (pRg t n m i acc).2.1 = 46) := by
  cases m with
  | zero =>
    have := hm rfl
    subst this
    have hs : sb (ck t i i) = false := by
      unfold ck
      rw [if_neg (by omega)]
      decide
    obtain ⟨p1, p2⟩ := pBnd_n hs
    have : pPart t i i = ((pBnd t i i).1, (pBnd t i i).2.1, (if 0 < (pBnd t i i).2.2.1 then (pBnd t i i).2.2.1 else 0), (if (pBnd t i i).2.2.2 < 999 then (pBnd t i i).2.2.2 else 999)) := pPl_x (by simp [p1]) 40
    rw [this]
    exact ⟨p2.symm, fun q => by cases q⟩
  | succ m =>
    rw [pRg_s]
    cases hy : (pPart t n i).1
    · rw [if_neg (by decide)]
      exact ⟨rfl, fun q => by cases q⟩
    · have := hd hy
      rw [if_pos rfl]
      rw [if_neg (by rw [this]; decide)]
      exact ⟨rfl, fun _ => this⟩
theorem inL_snoc (l : List (Int × Int)) (x : Int × Int) (v : Int) : inL (l ++ [x]) v = (inL l v || decide (x.1 ≤ v ∧ v ≤ x.2)) := by
  unfold inL
  rw [List.any_append]
  simp
theorem rg_B (l : Launch) (G : zG) (h : zH) (QQ : Option zV → zH → Prop) (t : Nat → Int) (n j : Nat) (f : Int) (to : Int) (hR : RS h t n j f) (hf : f ≠ -1) (lv : Nat) (hlv : 5 ≤ lv) (K : ∀ h' j', RK h h' → gI h' 97 = gI h 97 → RS h' t n j' f → QQ none h') : z_X l G mtX8_range lv 0 0 (QQ) 0 0 (h) 115 [vR 93, vI to, vI 1, vI 32] [] := by
  have c0 := hR.1.1
  have e7 := hR.2.2.1
  have e8 := hR.2.2.2.2.1
  have hj := hR.2.2.2.1
  have hn := hR.n40
  have hcr := hR.ck j
  have hfr := hR.2.2.2.2.2
  have hnx := sm_next l G h t n j f hR 1 (by omega)
  by_cases q : ck t n j = 124
  · have hj1 : j + 1 ≤ n := ck_lt (t := t) (n := n) (i := j) (by omega)
    have hR1 := hR.at (j + 1) hj1
    have hbl := sm_blanks l G _ t n (j + 1) f hR1 2 (by omega)
    rw [sI_sI] at hbl
    have hskn := (sk_le t hj1).2
    have hR2 := hR.at _ hskn
    have hK := K _ _ (RK.i (Or.inl rfl)) (sI_ne (by omega)) hR2
    have c2 := hR2.1.1
    have e82 := hR2.2.2.2.2.1
    clear K
    rw [q] at hnx
    generalize sI h 93 7 (sk t n (j + 1) : Int) = h2 at *
    refine z_run1 tsX8_range [] 20 ?_
    simp (maxSteps := 1000000) -implicitDefEqProofs +contextual (disch := omega) only [z_wp_t, z_wp_u, ↓pI_e, ↓pL_e, ↓pO_e, ↓pR_e, ↓p1_I, ↓p1_O, z_gl, z_st1, z_st2, z_nl_I, z_nl_O, z_nl_J, z_nl_L, if_true, if_false, ite_true, ite_false, true_and, and_true, List.mem_cons, List.not_mem_nil, or_false, false_or, or_self, List.length_cons, List.length_nil, InR_t, InL_t, z_ix_t, mI_s1, mI_s2, ↓brT, ↓brF, ↓brT', ↓brF', mL_sI, mR_sI, mK_sI, mS_sI, mI_sL, mL_s1, mL_s2, mR_sL, mK_sL, mS_sL, mI_sR, mL_sR, mR_s1, mR_s2, mK_sR, mS_sR, mA_s1, mA_s2, mL_sA, mR_sA, mK_sA, mS_sA, ix_n, ix_a, ix_m, ix_s, z_sw, z_stop, forall_const, true_implies, false_implies, imp_self, implies_true, not_true_eq_false, not_false_eq_true, ne_eq, eq_self, Option.some.injEq, reduceCtorEq, Nat.reduceAdd, Nat.reduceSub, Nat.reduceMul, Nat.reduceEqDiff, Nat.reduceLT, Nat.reduceLeDiff, Int.reduceAdd, Int.reduceMul, Int.reduceSub, Int.reduceNeg, Int.reduceToNat, Int.reduceLT, Int.reduceLE, Int.reduceEq, ↓reduceIte, List.reverse_cons, Option.toList, List.cons_append, List.nil_append, vI_inj, vL_inj, vO_inj, rI, rL, rO, rV, mI_sQ, mL_sQ, mK_sQ, mS_sQ, mQ_s1, mQ_s2, iL_and, iL_or, iL_xor, iL_shl, iL_ushr, iR_and, iR_or, iR_xor, iR_shl, iR_shr, iR_ushr, iR_cmp, yc0, tlX8_range, tkX8_range, o_aload, o_dup, o_dup2, o_getI, o_getR, o_goto, o_iadd, o_iald, o_iast, o_ic, o_icge, o_icne, o_ifeq, o_iinc, o_iload, o_ior, o_istore, o_putI, o_vret]
    try simp +contextual (disch := omega) only [impF, impT, and_true, true_and, implies_true, not_false_eq_true, not_true_eq_false]
    refine x_callV (by decide +kernel) cv_X8_91 (hnx) c0 (by omega) rfl (by omega) (by omega) rfl (Nat.le_of_ble_eq_true rfl) ?_
    rintro r h' ⟨rfl, hE⟩
    subst h'
    refine z_run1 tsX8_range [] 30 ?_
    simp (maxSteps := 1000000) -implicitDefEqProofs +contextual (disch := omega) only [z_wp_t, z_wp_u, ↓pI_e, ↓pL_e, ↓pO_e, ↓pR_e, ↓p1_I, ↓p1_O, z_gl, z_st1, z_st2, z_nl_I, z_nl_O, z_nl_J, z_nl_L, if_true, if_false, ite_true, ite_false, true_and, and_true, List.mem_cons, List.not_mem_nil, or_false, false_or, or_self, List.length_cons, List.length_nil, InR_t, InL_t, z_ix_t, mI_s1, mI_s2, ↓brT, ↓brF, ↓brT', ↓brF', mL_sI, mR_sI, mK_sI, mS_sI, mI_sL, mL_s1, mL_s2, mR_sL, mK_sL, mS_sL, mI_sR, mL_sR, mR_s1, mR_s2, mK_sR, mS_sR, mA_s1, mA_s2, mL_sA, mR_sA, mK_sA, mS_sA, ix_n, ix_a, ix_m, ix_s, z_sw, z_stop, forall_const, true_implies, false_implies, imp_self, implies_true, not_true_eq_false, not_false_eq_true, ne_eq, eq_self, Option.some.injEq, reduceCtorEq, Nat.reduceAdd, Nat.reduceSub, Nat.reduceMul, Nat.reduceEqDiff, Nat.reduceLT, Nat.reduceLeDiff, Int.reduceAdd, Int.reduceMul, Int.reduceSub, Int.reduceNeg, Int.reduceToNat, Int.reduceLT, Int.reduceLE, Int.reduceEq, ↓reduceIte, List.reverse_cons, Option.toList, List.cons_append, List.nil_append, vI_inj, vL_inj, vO_inj, rI, rL, rO, rV, mI_sQ, mL_sQ, mK_sQ, mS_sQ, mQ_s1, mQ_s2, iL_and, iL_or, iL_xor, iL_shl, iL_ushr, iR_and, iR_or, iR_xor, iR_shl, iR_shr, iR_ushr, iR_cmp, yc0, tlX8_range, tkX8_range, o_aload, o_dup, o_dup2, o_getI, o_getR, o_goto, o_iadd, o_iald, o_iast, o_ic, o_icge, o_icne, o_ifeq, o_iinc, o_iload, o_ior, o_istore, o_putI, o_vret, c0, e7]
    try simp +contextual (disch := omega) only [impF, impT, and_true, true_and, implies_true, not_false_eq_true, not_true_eq_false]
    refine x_callV (by decide +kernel) cv_X8_108 (hbl) c0 (by omega) rfl (by omega) (by omega) rfl (Nat.le_of_ble_eq_true rfl) ?_
    rintro r h' ⟨rfl, hE⟩
    subst h'
    refine z_run1 tsX8_range [] 30 ?_
    simp (maxSteps := 1000000) -implicitDefEqProofs +contextual (disch := omega) only [z_wp_t, z_wp_u, ↓pI_e, ↓pL_e, ↓pO_e, ↓pR_e, ↓p1_I, ↓p1_O, z_gl, z_st1, z_st2, z_nl_I, z_nl_O, z_nl_J, z_nl_L, if_true, if_false, ite_true, ite_false, true_and, and_true, List.mem_cons, List.not_mem_nil, or_false, false_or, or_self, List.length_cons, List.length_nil, InR_t, InL_t, z_ix_t, mI_s1, mI_s2, ↓brT, ↓brF, ↓brT', ↓brF', mL_sI, mR_sI, mK_sI, mS_sI, mI_sL, mL_s1, mL_s2, mR_sL, mK_sL, mS_sL, mI_sR, mL_sR, mR_s1, mR_s2, mK_sR, mS_sR, mA_s1, mA_s2, mL_sA, mR_sA, mK_sA, mS_sA, ix_n, ix_a, ix_m, ix_s, z_sw, z_stop, forall_const, true_implies, false_implies, imp_self, implies_true, not_true_eq_false, not_false_eq_true, ne_eq, eq_self, Option.some.injEq, reduceCtorEq, Nat.reduceAdd, Nat.reduceSub, Nat.reduceMul, Nat.reduceEqDiff, Nat.reduceLT, Nat.reduceLeDiff, Int.reduceAdd, Int.reduceMul, Int.reduceSub, Int.reduceNeg, Int.reduceToNat, Int.reduceLT, Int.reduceLE, Int.reduceEq, ↓reduceIte, List.reverse_cons, Option.toList, List.cons_append, List.nil_append, vI_inj, vL_inj, vO_inj, rI, rL, rO, rV, mI_sQ, mL_sQ, mK_sQ, mS_sQ, mQ_s1, mQ_s2, iL_and, iL_or, iL_xor, iL_shl, iL_ushr, iR_and, iR_or, iR_xor, iR_shl, iR_shr, iR_ushr, iR_cmp, yc0, tlX8_range, tkX8_range, o_aload, o_dup, o_dup2, o_getI, o_getR, o_goto, o_iadd, o_iald, o_iast, o_ic, o_icge, o_icne, o_ifeq, o_iinc, o_iload, o_ior, o_istore, o_putI, o_vret, c2, e82]
    try simp +contextual (disch := omega) only [impF, impT, and_true, true_and, implies_true, not_false_eq_true, not_true_eq_false]
    exact hK
  · have hK := K h j RK.rf rfl hR
    clear K
    generalize ck t n j = c at *
    refine z_run1 tsX8_range [] 20 ?_
    simp (maxSteps := 1000000) -implicitDefEqProofs +contextual (disch := omega) only [z_wp_t, z_wp_u, ↓pI_e, ↓pL_e, ↓pO_e, ↓pR_e, ↓p1_I, ↓p1_O, z_gl, z_st1, z_st2, z_nl_I, z_nl_O, z_nl_J, z_nl_L, if_true, if_false, ite_true, ite_false, true_and, and_true, List.mem_cons, List.not_mem_nil, or_false, false_or, or_self, List.length_cons, List.length_nil, InR_t, InL_t, z_ix_t, mI_s1, mI_s2, ↓brT, ↓brF, ↓brT', ↓brF', mL_sI, mR_sI, mK_sI, mS_sI, mI_sL, mL_s1, mL_s2, mR_sL, mK_sL, mS_sL, mI_sR, mL_sR, mR_s1, mR_s2, mK_sR, mS_sR, mA_s1, mA_s2, mL_sA, mR_sA, mK_sA, mS_sA, ix_n, ix_a, ix_m, ix_s, z_sw, z_stop, forall_const, true_implies, false_implies, imp_self, implies_true, not_true_eq_false, not_false_eq_true, ne_eq, eq_self, Option.some.injEq, reduceCtorEq, Nat.reduceAdd, Nat.reduceSub, Nat.reduceMul, Nat.reduceEqDiff, Nat.reduceLT, Nat.reduceLeDiff, Int.reduceAdd, Int.reduceMul, Int.reduceSub, Int.reduceNeg, Int.reduceToNat, Int.reduceLT, Int.reduceLE, Int.reduceEq, ↓reduceIte, List.reverse_cons, Option.toList, List.cons_append, List.nil_append, vI_inj, vL_inj, vO_inj, rI, rL, rO, rV, mI_sQ, mL_sQ, mK_sQ, mS_sQ, mQ_s1, mQ_s2, iL_and, iL_or, iL_xor, iL_shl, iL_ushr, iR_and, iR_or, iR_xor, iR_shl, iR_shr, iR_ushr, iR_cmp, yc0, tlX8_range, tkX8_range, o_aload, o_dup, o_dup2, o_getI, o_getR, o_goto, o_iadd, o_iald, o_iast, o_ic, o_icge, o_icne, o_ifeq, o_iinc, o_iload, o_ior, o_istore, o_putI, o_vret]
    try simp +contextual (disch := omega) only [impF, impT, and_true, true_and, implies_true, not_false_eq_true, not_true_eq_false]
    refine x_callV (by decide +kernel) cv_X8_91 (hnx) c0 (by omega) rfl (by omega) (by omega) rfl (Nat.le_of_ble_eq_true rfl) ?_
    rintro r h' ⟨rfl, hE⟩
    subst h'
    refine z_run1 tsX8_range [] 30 ?_
    simp (maxSteps := 1000000) -implicitDefEqProofs +contextual (disch := omega) only [z_wp_t, z_wp_u, ↓pI_e, ↓pL_e, ↓pO_e, ↓pR_e, ↓p1_I, ↓p1_O, z_gl, z_st1, z_st2, z_nl_I, z_nl_O, z_nl_J, z_nl_L, if_true, if_false, ite_true, ite_false, true_and, and_true, List.mem_cons, List.not_mem_nil, or_false, false_or, or_self, List.length_cons, List.length_nil, InR_t, InL_t, z_ix_t, mI_s1, mI_s2, ↓brT, ↓brF, ↓brT', ↓brF', mL_sI, mR_sI, mK_sI, mS_sI, mI_sL, mL_s1, mL_s2, mR_sL, mK_sL, mS_sL, mI_sR, mL_sR, mR_s1, mR_s2, mK_sR, mS_sR, mA_s1, mA_s2, mL_sA, mR_sA, mK_sA, mS_sA, ix_n, ix_a, ix_m, ix_s, z_sw, z_stop, forall_const, true_implies, false_implies, imp_self, implies_true, not_true_eq_false, not_false_eq_true, ne_eq, eq_self, Option.some.injEq, reduceCtorEq, Nat.reduceAdd, Nat.reduceSub, Nat.reduceMul, Nat.reduceEqDiff, Nat.reduceLT, Nat.reduceLeDiff, Int.reduceAdd, Int.reduceMul, Int.reduceSub, Int.reduceNeg, Int.reduceToNat, Int.reduceLT, Int.reduceLE, Int.reduceEq, ↓reduceIte, List.reverse_cons, Option.toList, List.cons_append, List.nil_append, vI_inj, vL_inj, vO_inj, rI, rL, rO, rV, mI_sQ, mL_sQ, mK_sQ, mS_sQ, mQ_s1, mQ_s2, iL_and, iL_or, iL_xor, iL_shl, iL_ushr, iR_and, iR_or, iR_xor, iR_shl, iR_shr, iR_ushr, iR_cmp, yc0, tlX8_range, tkX8_range, o_aload, o_dup, o_dup2, o_getI, o_getR, o_goto, o_iadd, o_iald, o_iast, o_ic, o_icge, o_icne, o_ifeq, o_iinc, o_iload, o_ior, o_istore, o_putI, o_vret, c0]
    try simp +contextual (disch := omega) only [impF, impT, and_true, true_and, implies_true, not_false_eq_true, not_true_eq_false]
    exact hK
theorem rg_A (l : Launch) (G : zG) (h : zH) (QQ : Option zV → zH → Prop) (t : Nat → Int) (n j : Nat) (to : Int) (hR : RS h t n j (-1)) (lv : Nat) (hlv : 5 ≤ lv) (K0 : ck t n j ≠ 124 → QQ none h) (K1 : ck t n j = 124 → j + 1 ≤ n → z_X l G mtX8_range lv 0 0 (QQ) 0 0 (sI h 93 7 (sk t n (j + 1) : Int)) 25 [vR 93, vI to, vI 1, vJ] []) : z_X l G mtX8_range lv 0 0 (QQ) 0 0 (h) 115 [vR 93, vI to, vI 1, vI 32] [] := by
  have c0 := hR.1.1
  have e7 := hR.2.2.1
  have hj := hR.2.2.2.1
  have hn := hR.n40
  have hcr := hR.ck j
  have hnx := sm_next l G h t n j (-1) hR 1 (by omega)
  by_cases q : ck t n j = 124
  · have hj1 : j + 1 ≤ n := ck_lt (t := t) (n := n) (i := j) (by omega)
    have hR1 := hR.at (j + 1) hj1
    have hbl := sm_blanks l G _ t n (j + 1) (-1) hR1 2 (by omega)
    rw [sI_sI] at hbl
    have hK := K1 q hj1
    clear K0 K1
    rw [q] at hnx
    generalize sI h 93 7 (sk t n (j + 1) : Int) = h2 at *
    refine z_run1 tsX8_range [] 20 ?_
    simp (maxSteps := 1000000) -implicitDefEqProofs +contextual (disch := omega) only [z_wp_t, z_wp_u, ↓pI_e, ↓pL_e, ↓pO_e, ↓pR_e, ↓p1_I, ↓p1_O, z_gl, z_st1, z_st2, z_nl_I, z_nl_O, z_nl_J, z_nl_L, if_true, if_false, ite_true, ite_false, true_and, and_true, List.mem_cons, List.not_mem_nil, or_false, false_or, or_self, List.length_cons, List.length_nil, InR_t, InL_t, z_ix_t, mI_s1, mI_s2, ↓brT, ↓brF, ↓brT', ↓brF', mL_sI, mR_sI, mK_sI, mS_sI, mI_sL, mL_s1, mL_s2, mR_sL, mK_sL, mS_sL, mI_sR, mL_sR, mR_s1, mR_s2, mK_sR, mS_sR, mA_s1, mA_s2, mL_sA, mR_sA, mK_sA, mS_sA, ix_n, ix_a, ix_m, ix_s, z_sw, z_stop, forall_const, true_implies, false_implies, imp_self, implies_true, not_true_eq_false, not_false_eq_true, ne_eq, eq_self, Option.some.injEq, reduceCtorEq, Nat.reduceAdd, Nat.reduceSub, Nat.reduceMul, Nat.reduceEqDiff, Nat.reduceLT, Nat.reduceLeDiff, Int.reduceAdd, Int.reduceMul, Int.reduceSub, Int.reduceNeg, Int.reduceToNat, Int.reduceLT, Int.reduceLE, Int.reduceEq, ↓reduceIte, List.reverse_cons, Option.toList, List.cons_append, List.nil_append, vI_inj, vL_inj, vO_inj, rI, rL, rO, rV, mI_sQ, mL_sQ, mK_sQ, mS_sQ, mQ_s1, mQ_s2, iL_and, iL_or, iL_xor, iL_shl, iL_ushr, iR_and, iR_or, iR_xor, iR_shl, iR_shr, iR_ushr, iR_cmp, yc0, tlX8_range, tkX8_range, o_aload, o_dup, o_dup2, o_getI, o_getR, o_goto, o_iadd, o_iald, o_iast, o_ic, o_icge, o_icne, o_ifeq, o_iinc, o_iload, o_ior, o_istore, o_putI, o_vret]
    try simp +contextual (disch := omega) only [impF, impT, and_true, true_and, implies_true, not_false_eq_true, not_true_eq_false]
    refine x_callV (by decide +kernel) cv_X8_91 (hnx) c0 (by omega) rfl (by omega) (by omega) rfl (Nat.le_of_ble_eq_true rfl) ?_
    rintro r h' ⟨rfl, hE⟩
    subst h'
    refine z_run1 tsX8_range [] 30 ?_
    simp (maxSteps := 1000000) -implicitDefEqProofs +contextual (disch := omega) only [z_wp_t, z_wp_u, ↓pI_e, ↓pL_e, ↓pO_e, ↓pR_e, ↓p1_I, ↓p1_O, z_gl, z_st1, z_st2, z_nl_I, z_nl_O, z_nl_J, z_nl_L, if_true, if_false, ite_true, ite_false, true_and, and_true, List.mem_cons, List.not_mem_nil, or_false, false_or, or_self, List.length_cons, List.length_nil, InR_t, InL_t, z_ix_t, mI_s1, mI_s2, ↓brT, ↓brF, ↓brT', ↓brF', mL_sI, mR_sI, mK_sI, mS_sI, mI_sL, mL_s1, mL_s2, mR_sL, mK_sL, mS_sL, mI_sR, mL_sR, mR_s1, mR_s2, mK_sR, mS_sR, mA_s1, mA_s2, mL_sA, mR_sA, mK_sA, mS_sA, ix_n, ix_a, ix_m, ix_s, z_sw, z_stop, forall_const, true_implies, false_implies, imp_self, implies_true, not_true_eq_false, not_false_eq_true, ne_eq, eq_self, Option.some.injEq, reduceCtorEq, Nat.reduceAdd, Nat.reduceSub, Nat.reduceMul, Nat.reduceEqDiff, Nat.reduceLT, Nat.reduceLeDiff, Int.reduceAdd, Int.reduceMul, Int.reduceSub, Int.reduceNeg, Int.reduceToNat, Int.reduceLT, Int.reduceLE, Int.reduceEq, ↓reduceIte, List.reverse_cons, Option.toList, List.cons_append, List.nil_append, vI_inj, vL_inj, vO_inj, rI, rL, rO, rV, mI_sQ, mL_sQ, mK_sQ, mS_sQ, mQ_s1, mQ_s2, iL_and, iL_or, iL_xor, iL_shl, iL_ushr, iR_and, iR_or, iR_xor, iR_shl, iR_shr, iR_ushr, iR_cmp, yc0, tlX8_range, tkX8_range, o_aload, o_dup, o_dup2, o_getI, o_getR, o_goto, o_iadd, o_iald, o_iast, o_ic, o_icge, o_icne, o_ifeq, o_iinc, o_iload, o_ior, o_istore, o_putI, o_vret, c0, e7]
    try simp +contextual (disch := omega) only [impF, impT, and_true, true_and, implies_true, not_false_eq_true, not_true_eq_false]
    refine x_callV (by decide +kernel) cv_X8_108 (hbl) c0 (by omega) rfl (by omega) (by omega) rfl (Nat.le_of_ble_eq_true rfl) ?_
    rintro r h' ⟨rfl, hE⟩
    subst h'
    refine z_run1 tsX8_range [25] 30 ?_
    simp (maxSteps := 1000000) -implicitDefEqProofs +contextual (disch := omega) only [z_wp_t, z_wp_u, ↓pI_e, ↓pL_e, ↓pO_e, ↓pR_e, ↓p1_I, ↓p1_O, z_gl, z_st1, z_st2, z_nl_I, z_nl_O, z_nl_J, z_nl_L, if_true, if_false, ite_true, ite_false, true_and, and_true, List.mem_cons, List.not_mem_nil, or_false, false_or, or_self, List.length_cons, List.length_nil, InR_t, InL_t, z_ix_t, mI_s1, mI_s2, ↓brT, ↓brF, ↓brT', ↓brF', mL_sI, mR_sI, mK_sI, mS_sI, mI_sL, mL_s1, mL_s2, mR_sL, mK_sL, mS_sL, mI_sR, mL_sR, mR_s1, mR_s2, mK_sR, mS_sR, mA_s1, mA_s2, mL_sA, mR_sA, mK_sA, mS_sA, ix_n, ix_a, ix_m, ix_s, z_sw, z_stop, forall_const, true_implies, false_implies, imp_self, implies_true, not_true_eq_false, not_false_eq_true, ne_eq, eq_self, Option.some.injEq, reduceCtorEq, Nat.reduceAdd, Nat.reduceSub, Nat.reduceMul, Nat.reduceEqDiff, Nat.reduceLT, Nat.reduceLeDiff, Int.reduceAdd, Int.reduceMul, Int.reduceSub, Int.reduceNeg, Int.reduceToNat, Int.reduceLT, Int.reduceLE, Int.reduceEq, ↓reduceIte, List.reverse_cons, Option.toList, List.cons_append, List.nil_append, vI_inj, vL_inj, vO_inj, rI, rL, rO, rV, mI_sQ, mL_sQ, mK_sQ, mS_sQ, mQ_s1, mQ_s2, iL_and, iL_or, iL_xor, iL_shl, iL_ushr, iR_and, iR_or, iR_xor, iR_shl, iR_shr, iR_ushr, iR_cmp, yc0, tlX8_range, tkX8_range, o_aload, o_dup, o_dup2, o_getI, o_getR, o_goto, o_iadd, o_iald, o_iast, o_ic, o_icge, o_icne, o_ifeq, o_iinc, o_iload, o_ior, o_istore, o_putI, o_vret]
    try simp +contextual (disch := omega) only [impF, impT, and_true, true_and, implies_true, not_false_eq_true, not_true_eq_false]
    refine x_wk [vR 93, vI to, vI 1, vJ] (by simp [z_wk]) ?_
    exact hK
  · have hK := K0 q
    clear K0 K1
    generalize ck t n j = c at *
    refine z_run1 tsX8_range [] 20 ?_
    simp (maxSteps := 1000000) -implicitDefEqProofs +contextual (disch := omega) only [z_wp_t, z_wp_u, ↓pI_e, ↓pL_e, ↓pO_e, ↓pR_e, ↓p1_I, ↓p1_O, z_gl, z_st1, z_st2, z_nl_I, z_nl_O, z_nl_J, z_nl_L, if_true, if_false, ite_true, ite_false, true_and, and_true, List.mem_cons, List.not_mem_nil, or_false, false_or, or_self, List.length_cons, List.length_nil, InR_t, InL_t, z_ix_t, mI_s1, mI_s2, ↓brT, ↓brF, ↓brT', ↓brF', mL_sI, mR_sI, mK_sI, mS_sI, mI_sL, mL_s1, mL_s2, mR_sL, mK_sL, mS_sL, mI_sR, mL_sR, mR_s1, mR_s2, mK_sR, mS_sR, mA_s1, mA_s2, mL_sA, mR_sA, mK_sA, mS_sA, ix_n, ix_a, ix_m, ix_s, z_sw, z_stop, forall_const, true_implies, false_implies, imp_self, implies_true, not_true_eq_false, not_false_eq_true, ne_eq, eq_self, Option.some.injEq, reduceCtorEq, Nat.reduceAdd, Nat.reduceSub, Nat.reduceMul, Nat.reduceEqDiff, Nat.reduceLT, Nat.reduceLeDiff, Int.reduceAdd, Int.reduceMul, Int.reduceSub, Int.reduceNeg, Int.reduceToNat, Int.reduceLT, Int.reduceLE, Int.reduceEq, ↓reduceIte, List.reverse_cons, Option.toList, List.cons_append, List.nil_append, vI_inj, vL_inj, vO_inj, rI, rL, rO, rV, mI_sQ, mL_sQ, mK_sQ, mS_sQ, mQ_s1, mQ_s2, iL_and, iL_or, iL_xor, iL_shl, iL_ushr, iR_and, iR_or, iR_xor, iR_shl, iR_shr, iR_ushr, iR_cmp, yc0, tlX8_range, tkX8_range, o_aload, o_dup, o_dup2, o_getI, o_getR, o_goto, o_iadd, o_iald, o_iast, o_ic, o_icge, o_icne, o_ifeq, o_iinc, o_iload, o_ior, o_istore, o_putI, o_vret]
    try simp +contextual (disch := omega) only [impF, impT, and_true, true_and, implies_true, not_false_eq_true, not_true_eq_false]
    refine x_callV (by decide +kernel) cv_X8_91 (hnx) c0 (by omega) rfl (by omega) (by omega) rfl (Nat.le_of_ble_eq_true rfl) ?_
    rintro r h' ⟨rfl, hE⟩
    subst h'
    refine z_run1 tsX8_range [] 30 ?_
    simp (maxSteps := 1000000) -implicitDefEqProofs +contextual (disch := omega) only [z_wp_t, z_wp_u, ↓pI_e, ↓pL_e, ↓pO_e, ↓pR_e, ↓p1_I, ↓p1_O, z_gl, z_st1, z_st2, z_nl_I, z_nl_O, z_nl_J, z_nl_L, if_true, if_false, ite_true, ite_false, true_and, and_true, List.mem_cons, List.not_mem_nil, or_false, false_or, or_self, List.length_cons, List.length_nil, InR_t, InL_t, z_ix_t, mI_s1, mI_s2, ↓brT, ↓brF, ↓brT', ↓brF', mL_sI, mR_sI, mK_sI, mS_sI, mI_sL, mL_s1, mL_s2, mR_sL, mK_sL, mS_sL, mI_sR, mL_sR, mR_s1, mR_s2, mK_sR, mS_sR, mA_s1, mA_s2, mL_sA, mR_sA, mK_sA, mS_sA, ix_n, ix_a, ix_m, ix_s, z_sw, z_stop, forall_const, true_implies, false_implies, imp_self, implies_true, not_true_eq_false, not_false_eq_true, ne_eq, eq_self, Option.some.injEq, reduceCtorEq, Nat.reduceAdd, Nat.reduceSub, Nat.reduceMul, Nat.reduceEqDiff, Nat.reduceLT, Nat.reduceLeDiff, Int.reduceAdd, Int.reduceMul, Int.reduceSub, Int.reduceNeg, Int.reduceToNat, Int.reduceLT, Int.reduceLE, Int.reduceEq, ↓reduceIte, List.reverse_cons, Option.toList, List.cons_append, List.nil_append, vI_inj, vL_inj, vO_inj, rI, rL, rO, rV, mI_sQ, mL_sQ, mK_sQ, mS_sQ, mQ_s1, mQ_s2, iL_and, iL_or, iL_xor, iL_shl, iL_ushr, iR_and, iR_or, iR_xor, iR_shl, iR_shr, iR_ushr, iR_cmp, yc0, tlX8_range, tkX8_range, o_aload, o_dup, o_dup2, o_getI, o_getR, o_goto, o_iadd, o_iald, o_iast, o_ic, o_icge, o_icne, o_ifeq, o_iinc, o_iload, o_ior, o_istore, o_putI, o_vret, c0]
    try simp +contextual (disch := omega) only [impF, impT, and_true, true_and, implies_true, not_false_eq_true, not_true_eq_false]
    exact hK
theorem rg_lp (l : Launch) (G : zG) (h0 : zH) (t : Nat → Int) (n to : Nat) (hto : to + 32 ≤ 68) (lv : Nat) (hlv : 5 ≤ lv) : ∀ (m i : Nat) (acc : List (Int × Int)) (h : zH), RS h t n i (-1) → RK h0 h → (∀ k, k < to ∨ to + 32 ≤ k → gI h 97 k = gI h0 97 k) → (∀ v : Nat, v < 1000 → tb (gI h 97 (to + v / 32)) (v % 32) = inL acc (v : Int)) → 40 ≤ 2 * m + i → z_X l G mtX8_range lv 0 0 (rrQ h0 t n to (pRg t n m i acc)) 0 0 (h) 25 [vR 93, vI (to : Int), vI 1, vJ] [] := by
  intro m
  induction m with
  | zero =>
    intro i acc h hR hK hO hb hm
    have c0 := hR.1.1
    have e8 := hR.2.2.2.2.1
    have hin := hR.2.2.2.1
    have hn := hR.n40
    generalize hQ : rrQ h0 t n to (pRg t n 0 i acc) = QQ
    have hpt : z_X l G mtX8_range lv 0 0 (QQ) 0 0 (sA h 98 (gI h 98)) 39 [vR 93, vI (to : Int), vI 1, vI ((0 : Nat) : Int)] [] := by
      refine rg_pt l G h QQ t n i (to : Int) hR lv hlv (fun h1 hq => ?_) 32 0 (gI h 98) (by omega) (fun q hq => by omega)
      have hS1 : ShM h1 := hR.1.of hq.1.1.K hq.1.2.1
      have hor : z_X l G mtX8_range lv 0 0 (QQ) 0 0 (sA h1 97 (gI h1 97)) 86 [vR 93, vI (to : Int), vI 1, vI ((0 : Nat) : Int)] [] := by
        refine rg_or l G h1 QQ to hto hS1 lv hlv (fun g hg => ?_) 32 0 (gI h1 97) (by omega) (fun k => by rw [if_neg (by omega)])
        obtain ⟨q1, q2, q3⟩ := hq
        have hK2 : RK h0 (sA h1 97 g) := (hK.tr q1).tr (RK.a (Or.inl rfl))
        have hO2 : ∀ k, k < to ∨ to + 32 ≤ k → gI (sA h1 97 g) 97 k = gI h0 97 k := fun k hk => by
          rw [mA_s1, hg k, if_neg (by omega), q2]
          exact hO k hk
        rcases q3 with ⟨q4, q5, q6⟩ | ⟨j, q4, q5⟩
        · have hb2 : ∀ v : Nat, v < 1000 → tb (gI (sA h1 97 g) 97 (to + v / 32)) (v % 32) = inL (acc ++ [(pPart t n i).2.2]) (v : Int) := fun v hv => by
            rw [mA_s1, hg _, if_pos (by omega), tb_or, q2, hb v hv, show to + v / 32 - to = v / 32 by omega, q6 v hv, inL_snoc]
            rfl
          have hlt := pPart_lt hin q5
          have hle := q4.2.2.2.1
          exact absurd hlt (by omega)
        · obtain ⟨p1, p2⟩ := pRg_B (acc := acc) (m := 0) hin (fun q => by omega) q5
          have hj := q4.2.2.2.2.2
          refine rg_B l G _ QQ t n j _ (to : Int) (q4.ar g (Or.inl rfl)) (by omega) lv hlv (fun h' j' k1 k2 k3 => ?_)
          rw [← hQ]
          refine ⟨rfl, hK2.tr k1, fun k hk => by rw [k2]; exact hO2 k hk, Or.inr ⟨j', ?_, p2⟩⟩
          rw [p1]
          exact k3
      rw [sA_self] at hor
      clear hO hb hm hQ
      refine z_run1 tsX8_range [86] 20 ?_
      simp (maxSteps := 1000000) -implicitDefEqProofs +contextual (disch := omega) only [z_wp_t, z_wp_u, ↓pI_e, ↓pL_e, ↓pO_e, ↓pR_e, ↓p1_I, ↓p1_O, z_gl, z_st1, z_st2, z_nl_I, z_nl_O, z_nl_J, z_nl_L, if_true, if_false, ite_true, ite_false, true_and, and_true, List.mem_cons, List.not_mem_nil, or_false, false_or, or_self, List.length_cons, List.length_nil, InR_t, InL_t, z_ix_t, mI_s1, mI_s2, ↓brT, ↓brF, ↓brT', ↓brF', mL_sI, mR_sI, mK_sI, mS_sI, mI_sL, mL_s1, mL_s2, mR_sL, mK_sL, mS_sL, mI_sR, mL_sR, mR_s1, mR_s2, mK_sR, mS_sR, mA_s1, mA_s2, mL_sA, mR_sA, mK_sA, mS_sA, ix_n, ix_a, ix_m, ix_s, z_sw, z_stop, forall_const, true_implies, false_implies, imp_self, implies_true, not_true_eq_false, not_false_eq_true, ne_eq, eq_self, Option.some.injEq, reduceCtorEq, Nat.reduceAdd, Nat.reduceSub, Nat.reduceMul, Nat.reduceEqDiff, Nat.reduceLT, Nat.reduceLeDiff, Int.reduceAdd, Int.reduceMul, Int.reduceSub, Int.reduceNeg, Int.reduceToNat, Int.reduceLT, Int.reduceLE, Int.reduceEq, ↓reduceIte, List.reverse_cons, Option.toList, List.cons_append, List.nil_append, vI_inj, vL_inj, vO_inj, rI, rL, rO, rV, mI_sQ, mL_sQ, mK_sQ, mS_sQ, mQ_s1, mQ_s2, iL_and, iL_or, iL_xor, iL_shl, iL_ushr, iR_and, iR_or, iR_xor, iR_shl, iR_shr, iR_ushr, iR_cmp, yc0, tlX8_range, tkX8_range, o_aload, o_dup, o_dup2, o_getI, o_getR, o_goto, o_iadd, o_iald, o_iast, o_ic, o_icge, o_icne, o_ifeq, o_iinc, o_iload, o_ior, o_istore, o_putI, o_vret]
      try simp +contextual (disch := omega) only [impF, impT, and_true, true_and, implies_true, not_false_eq_true, not_true_eq_false]
      exact hor
    rw [sA_self] at hpt
    clear hO hb hm hQ
    refine z_run1 tsX8_range [39] 20 ?_
    simp (maxSteps := 1000000) -implicitDefEqProofs +contextual (disch := omega) only [z_wp_t, z_wp_u, ↓pI_e, ↓pL_e, ↓pO_e, ↓pR_e, ↓p1_I, ↓p1_O, z_gl, z_st1, z_st2, z_nl_I, z_nl_O, z_nl_J, z_nl_L, if_true, if_false, ite_true, ite_false, true_and, and_true, List.mem_cons, List.not_mem_nil, or_false, false_or, or_self, List.length_cons, List.length_nil, InR_t, InL_t, z_ix_t, mI_s1, mI_s2, ↓brT, ↓brF, ↓brT', ↓brF', mL_sI, mR_sI, mK_sI, mS_sI, mI_sL, mL_s1, mL_s2, mR_sL, mK_sL, mS_sL, mI_sR, mL_sR, mR_s1, mR_s2, mK_sR, mS_sR, mA_s1, mA_s2, mL_sA, mR_sA, mK_sA, mS_sA, ix_n, ix_a, ix_m, ix_s, z_sw, z_stop, forall_const, true_implies, false_implies, imp_self, implies_true, not_true_eq_false, not_false_eq_true, ne_eq, eq_self, Option.some.injEq, reduceCtorEq, Nat.reduceAdd, Nat.reduceSub, Nat.reduceMul, Nat.reduceEqDiff, Nat.reduceLT, Nat.reduceLeDiff, Int.reduceAdd, Int.reduceMul, Int.reduceSub, Int.reduceNeg, Int.reduceToNat, Int.reduceLT, Int.reduceLE, Int.reduceEq, ↓reduceIte, List.reverse_cons, Option.toList, List.cons_append, List.nil_append, vI_inj, vL_inj, vO_inj, rI, rL, rO, rV, mI_sQ, mL_sQ, mK_sQ, mS_sQ, mQ_s1, mQ_s2, iL_and, iL_or, iL_xor, iL_shl, iL_ushr, iR_and, iR_or, iR_xor, iR_shl, iR_shr, iR_ushr, iR_cmp, yc0, tlX8_range, tkX8_range, o_aload, o_dup, o_dup2, o_getI, o_getR, o_goto, o_iadd, o_iald, o_iast, o_ic, o_icge, o_icne, o_ifeq, o_iinc, o_iload, o_ior, o_istore, o_putI, o_vret, c0, e8]
    try simp +contextual (disch := omega) only [impF, impT, and_true, true_and, implies_true, not_false_eq_true, not_true_eq_false]
    exact hpt
  | succ m ih =>
    intro i acc h hR hK hO hb hm
    have c0 := hR.1.1
    have e8 := hR.2.2.2.2.1
    have hin := hR.2.2.2.1
    have hn := hR.n40
    generalize hQ : rrQ h0 t n to (pRg t n (m + 1) i acc) = QQ
    have hpt : z_X l G mtX8_range lv 0 0 (QQ) 0 0 (sA h 98 (gI h 98)) 39 [vR 93, vI (to : Int), vI 1, vI ((0 : Nat) : Int)] [] := by
      refine rg_pt l G h QQ t n i (to : Int) hR lv hlv (fun h1 hq => ?_) 32 0 (gI h 98) (by omega) (fun q hq => by omega)
      have hS1 : ShM h1 := hR.1.of hq.1.1.K hq.1.2.1
      have hor : z_X l G mtX8_range lv 0 0 (QQ) 0 0 (sA h1 97 (gI h1 97)) 86 [vR 93, vI (to : Int), vI 1, vI ((0 : Nat) : Int)] [] := by
        refine rg_or l G h1 QQ to hto hS1 lv hlv (fun g hg => ?_) 32 0 (gI h1 97) (by omega) (fun k => by rw [if_neg (by omega)])
        obtain ⟨q1, q2, q3⟩ := hq
        have hK2 : RK h0 (sA h1 97 g) := (hK.tr q1).tr (RK.a (Or.inl rfl))
        have hO2 : ∀ k, k < to ∨ to + 32 ≤ k → gI (sA h1 97 g) 97 k = gI h0 97 k := fun k hk => by
          rw [mA_s1, hg k, if_neg (by omega), q2]
          exact hO k hk
        rcases q3 with ⟨q4, q5, q6⟩ | ⟨j, q4, q5⟩
        · have hb2 : ∀ v : Nat, v < 1000 → tb (gI (sA h1 97 g) 97 (to + v / 32)) (v % 32) = inL (acc ++ [(pPart t n i).2.2]) (v : Int) := fun v hv => by
            rw [mA_s1, hg _, if_pos (by omega), tb_or, q2, hb v hv, show to + v / 32 - to = v / 32 by omega, q6 v hv, inL_snoc]
            rfl
          have hlt := pPart_lt hin q5
          have hle := q4.2.2.2.1
          refine rg_A l G _ QQ t n _ (to : Int) (q4.ar g (Or.inl rfl)) lv hlv (fun hne => ?_) (fun he hj1 => ?_)
          · rw [← hQ, pRg_s, if_pos q5, if_neg hne]
            exact ⟨rfl, hK2, hO2, Or.inl ⟨q4.ar g (Or.inl rfl), rfl, hb2⟩⟩
          · rw [← hQ, pRg_s, if_pos q5, if_pos he]
            have hsk := sk_le t hj1
            refine ih _ _ _ ((q4.ar g (Or.inl rfl)).at _ hsk.2) (hK2.tr (RK.i (Or.inl rfl))) (fun k hk => by rw [mI_s2 _ _ (Or.inl (by omega))]; exact hO2 k hk) (fun v hv => by rw [mI_s2 _ _ (Or.inl (by omega))]; exact hb2 v hv) (by omega)
        · obtain ⟨p1, p2⟩ := pRg_B (acc := acc) (m := (m + 1)) hin (fun q => by omega) q5
          have hj := q4.2.2.2.2.2
          refine rg_B l G _ QQ t n j _ (to : Int) (q4.ar g (Or.inl rfl)) (by omega) lv hlv (fun h' j' k1 k2 k3 => ?_)
          rw [← hQ]
          refine ⟨rfl, hK2.tr k1, fun k hk => by rw [k2]; exact hO2 k hk, Or.inr ⟨j', ?_, p2⟩⟩
          rw [p1]
          exact k3
      rw [sA_self] at hor
      clear hO hb hm hQ
      refine z_run1 tsX8_range [86] 20 ?_
      simp (maxSteps := 1000000) -implicitDefEqProofs +contextual (disch := omega) only [z_wp_t, z_wp_u, ↓pI_e, ↓pL_e, ↓pO_e, ↓pR_e, ↓p1_I, ↓p1_O, z_gl, z_st1, z_st2, z_nl_I, z_nl_O, z_nl_J, z_nl_L, if_true, if_false, ite_true, ite_false, true_and, and_true, List.mem_cons, List.not_mem_nil, or_false, false_or, or_self, List.length_cons, List.length_nil, InR_t, InL_t, z_ix_t, mI_s1, mI_s2, ↓brT, ↓brF, ↓brT', ↓brF', mL_sI, mR_sI, mK_sI, mS_sI, mI_sL, mL_s1, mL_s2, mR_sL, mK_sL, mS_sL, mI_sR, mL_sR, mR_s1, mR_s2, mK_sR, mS_sR, mA_s1, mA_s2, mL_sA, mR_sA, mK_sA, mS_sA, ix_n, ix_a, ix_m, ix_s, z_sw, z_stop, forall_const, true_implies, false_implies, imp_self, implies_true, not_true_eq_false, not_false_eq_true, ne_eq, eq_self, Option.some.injEq, reduceCtorEq, Nat.reduceAdd, Nat.reduceSub, Nat.reduceMul, Nat.reduceEqDiff, Nat.reduceLT, Nat.reduceLeDiff, Int.reduceAdd, Int.reduceMul, Int.reduceSub, Int.reduceNeg, Int.reduceToNat, Int.reduceLT, Int.reduceLE, Int.reduceEq, ↓reduceIte, List.reverse_cons, Option.toList, List.cons_append, List.nil_append, vI_inj, vL_inj, vO_inj, rI, rL, rO, rV, mI_sQ, mL_sQ, mK_sQ, mS_sQ, mQ_s1, mQ_s2, iL_and, iL_or, iL_xor, iL_shl, iL_ushr, iR_and, iR_or, iR_xor, iR_shl, iR_shr, iR_ushr, iR_cmp, yc0, tlX8_range, tkX8_range, o_aload, o_dup, o_dup2, o_getI, o_getR, o_goto, o_iadd, o_iald, o_iast, o_ic, o_icge, o_icne, o_ifeq, o_iinc, o_iload, o_ior, o_istore, o_putI, o_vret]
      try simp +contextual (disch := omega) only [impF, impT, and_true, true_and, implies_true, not_false_eq_true, not_true_eq_false]
      exact hor
    rw [sA_self] at hpt
    clear hO hb hm hQ
    refine z_run1 tsX8_range [39] 20 ?_
    simp (maxSteps := 1000000) -implicitDefEqProofs +contextual (disch := omega) only [z_wp_t, z_wp_u, ↓pI_e, ↓pL_e, ↓pO_e, ↓pR_e, ↓p1_I, ↓p1_O, z_gl, z_st1, z_st2, z_nl_I, z_nl_O, z_nl_J, z_nl_L, if_true, if_false, ite_true, ite_false, true_and, and_true, List.mem_cons, List.not_mem_nil, or_false, false_or, or_self, List.length_cons, List.length_nil, InR_t, InL_t, z_ix_t, mI_s1, mI_s2, ↓brT, ↓brF, ↓brT', ↓brF', mL_sI, mR_sI, mK_sI, mS_sI, mI_sL, mL_s1, mL_s2, mR_sL, mK_sL, mS_sL, mI_sR, mL_sR, mR_s1, mR_s2, mK_sR, mS_sR, mA_s1, mA_s2, mL_sA, mR_sA, mK_sA, mS_sA, ix_n, ix_a, ix_m, ix_s, z_sw, z_stop, forall_const, true_implies, false_implies, imp_self, implies_true, not_true_eq_false, not_false_eq_true, ne_eq, eq_self, Option.some.injEq, reduceCtorEq, Nat.reduceAdd, Nat.reduceSub, Nat.reduceMul, Nat.reduceEqDiff, Nat.reduceLT, Nat.reduceLeDiff, Int.reduceAdd, Int.reduceMul, Int.reduceSub, Int.reduceNeg, Int.reduceToNat, Int.reduceLT, Int.reduceLE, Int.reduceEq, ↓reduceIte, List.reverse_cons, Option.toList, List.cons_append, List.nil_append, vI_inj, vL_inj, vO_inj, rI, rL, rO, rV, mI_sQ, mL_sQ, mK_sQ, mS_sQ, mQ_s1, mQ_s2, iL_and, iL_or, iL_xor, iL_shl, iL_ushr, iR_and, iR_or, iR_xor, iR_shl, iR_shr, iR_ushr, iR_cmp, yc0, tlX8_range, tkX8_range, o_aload, o_dup, o_dup2, o_getI, o_getR, o_goto, o_iadd, o_iald, o_iast, o_ic, o_icge, o_icne, o_ifeq, o_iinc, o_iload, o_ior, o_istore, o_putI, o_vret, c0, e8]
    try simp +contextual (disch := omega) only [impF, impT, and_true, true_and, implies_true, not_false_eq_true, not_true_eq_false]
    exact hpt
set_option maxHeartbeats 4000000 in
theorem sm_range (l : Launch) (G : zG) (h : zH) (t : Nat → Int) (n i to : Nat) (hto : to + 32 ≤ 68) (hR : RS h t n i (-1)) (lv : Nat) (hlv : 5 ≤ lv) : z_Sp l G mtX8_range lv 0 0 [vR 93, vI ((to : Nat) : Int)] (h) (rrQ h t n to (pRg t n 20 i [])) := by
  refine x_enter [vR 93, vI (to : Int), vJ, vJ] (by decide +kernel) (by omega) rfl (Nat.le_of_ble_eq_true rfl) ?_
  generalize hQ : rrQ h t n to (pRg t n 20 i []) = QQ
  have c0 := hR.1.1
  have c97 := hR.1.2.1.2.2.2.1
  have s5 := hR.1.2.2.2.1.2.2.2.1
  have hlo : ∀ (d k : Nat) (g : Nat → Int), k + d = 32 → (∀ q, (q < to ∨ to + 32 ≤ q → g q = gI h 97 q) ∧ (to ≤ q → q < to + k → g q = 0)) → z_X l G mtX8_range lv 0 0 (QQ) 0 0 (sA h 97 g) 2 [vR 93, vI (to : Int), vI k, vJ] [] := by
    intro d
    induction d with
    | zero =>
      intro k g hk hg
      obtain rfl : k = 32 := by omega
      have hnx := rg_lp l G h t n to hto lv hlv 20 i [] (sA h 97 g) (hR.ar g (Or.inl rfl)) (RK.a (Or.inl rfl)) (fun k hk => by rw [mA_s1]; exact (hg k).1 hk) (fun v hv => by
        rw [mA_s1, (hg _).2 (by omega) (by omega), tb_0]
        rfl) (by omega)
      rw [hQ] at hnx
      clear hg hQ
      refine z_run1 tsX8_range [25] 20 ?_
      simp (maxSteps := 1000000) -implicitDefEqProofs +contextual (disch := omega) only [z_wp_t, z_wp_u, ↓pI_e, ↓pL_e, ↓pO_e, ↓pR_e, ↓p1_I, ↓p1_O, z_gl, z_st1, z_st2, z_nl_I, z_nl_O, z_nl_J, z_nl_L, if_true, if_false, ite_true, ite_false, true_and, and_true, List.mem_cons, List.not_mem_nil, or_false, false_or, or_self, List.length_cons, List.length_nil, InR_t, InL_t, z_ix_t, mI_s1, mI_s2, ↓brT, ↓brF, ↓brT', ↓brF', mL_sI, mR_sI, mK_sI, mS_sI, mI_sL, mL_s1, mL_s2, mR_sL, mK_sL, mS_sL, mI_sR, mL_sR, mR_s1, mR_s2, mK_sR, mS_sR, mA_s1, mA_s2, mL_sA, mR_sA, mK_sA, mS_sA, ix_n, ix_a, ix_m, ix_s, z_sw, z_stop, forall_const, true_implies, false_implies, imp_self, implies_true, not_true_eq_false, not_false_eq_true, ne_eq, eq_self, Option.some.injEq, reduceCtorEq, Nat.reduceAdd, Nat.reduceSub, Nat.reduceMul, Nat.reduceEqDiff, Nat.reduceLT, Nat.reduceLeDiff, Int.reduceAdd, Int.reduceMul, Int.reduceSub, Int.reduceNeg, Int.reduceToNat, Int.reduceLT, Int.reduceLE, Int.reduceEq, ↓reduceIte, List.reverse_cons, Option.toList, List.cons_append, List.nil_append, vI_inj, vL_inj, vO_inj, rI, rL, rO, rV, mI_sQ, mL_sQ, mK_sQ, mS_sQ, mQ_s1, mQ_s2, iL_and, iL_or, iL_xor, iL_shl, iL_ushr, iR_and, iR_or, iR_xor, iR_shl, iR_shr, iR_ushr, iR_cmp, yc0, tlX8_range, tkX8_range, o_aload, o_dup, o_dup2, o_getI, o_getR, o_goto, o_iadd, o_iald, o_iast, o_ic, o_icge, o_icne, o_ifeq, o_iinc, o_iload, o_ior, o_istore, o_putI, o_vret]
      try simp +contextual (disch := omega) only [impF, impT, and_true, true_and, implies_true, not_false_eq_true, not_true_eq_false]
      exact hnx
    | succ d ih =>
      intro k g hk hg
      have hnx := ih (k + 1) (up g (to + k) 0) (by omega) (fun q => ⟨fun hq => by rw [up_n _ _ (by omega)]; exact (hg q).1 hq, fun h1 h2 => by
        by_cases e : q = to + k
        · rw [e, up_s]
        · rw [up_n _ _ e]; exact (hg q).2 h1 (by omega)⟩)
      clear ih hg hQ
      refine z_run1 tsX8_range [2] 20 ?_
      simp (maxSteps := 1000000) -implicitDefEqProofs +contextual (disch := omega) only [z_wp_t, z_wp_u, ↓pI_e, ↓pL_e, ↓pO_e, ↓pR_e, ↓p1_I, ↓p1_O, z_gl, z_st1, z_st2, z_nl_I, z_nl_O, z_nl_J, z_nl_L, if_true, if_false, ite_true, ite_false, true_and, and_true, List.mem_cons, List.not_mem_nil, or_false, false_or, or_self, List.length_cons, List.length_nil, InR_t, InL_t, z_ix_t, mI_s1, mI_s2, ↓brT, ↓brF, ↓brT', ↓brF', mL_sI, mR_sI, mK_sI, mS_sI, mI_sL, mL_s1, mL_s2, mR_sL, mK_sL, mS_sL, mI_sR, mL_sR, mR_s1, mR_s2, mK_sR, mS_sR, mA_s1, mA_s2, mL_sA, mR_sA, mK_sA, mS_sA, ix_n, ix_a, ix_m, ix_s, z_sw, z_stop, forall_const, true_implies, false_implies, imp_self, implies_true, not_true_eq_false, not_false_eq_true, ne_eq, eq_self, Option.some.injEq, reduceCtorEq, Nat.reduceAdd, Nat.reduceSub, Nat.reduceMul, Nat.reduceEqDiff, Nat.reduceLT, Nat.reduceLeDiff, Int.reduceAdd, Int.reduceMul, Int.reduceSub, Int.reduceNeg, Int.reduceToNat, Int.reduceLT, Int.reduceLE, Int.reduceEq, ↓reduceIte, List.reverse_cons, Option.toList, List.cons_append, List.nil_append, vI_inj, vL_inj, vO_inj, rI, rL, rO, rV, mI_sQ, mL_sQ, mK_sQ, mS_sQ, mQ_s1, mQ_s2, iL_and, iL_or, iL_xor, iL_shl, iL_ushr, iR_and, iR_or, iR_xor, iR_shl, iR_shr, iR_ushr, iR_cmp, yc0, tlX8_range, tkX8_range, o_aload, o_dup, o_dup2, o_getI, o_getR, o_goto, o_iadd, o_iald, o_iast, o_ic, o_icge, o_icne, o_ifeq, o_iinc, o_iload, o_ior, o_istore, o_putI, o_vret, c0, c97, s5, sI_sA]
      try simp +contextual (disch := omega) only [impF, impT, and_true, true_and, implies_true, not_false_eq_true, not_true_eq_false]
      exact hnx
  have h0 := hlo 32 0 (gI h 97) (by omega) (fun q => ⟨fun _ => rfl, fun h1 h2 => by omega⟩)
  rw [sA_self] at h0
  clear hlo hQ
  refine z_run1 tsX8_range [2] 20 ?_
  simp (maxSteps := 1000000) -implicitDefEqProofs +contextual (disch := omega) only [z_wp_t, z_wp_u, ↓pI_e, ↓pL_e, ↓pO_e, ↓pR_e, ↓p1_I, ↓p1_O, z_gl, z_st1, z_st2, z_nl_I, z_nl_O, z_nl_J, z_nl_L, if_true, if_false, ite_true, ite_false, true_and, and_true, List.mem_cons, List.not_mem_nil, or_false, false_or, or_self, List.length_cons, List.length_nil, InR_t, InL_t, z_ix_t, mI_s1, mI_s2, ↓brT, ↓brF, ↓brT', ↓brF', mL_sI, mR_sI, mK_sI, mS_sI, mI_sL, mL_s1, mL_s2, mR_sL, mK_sL, mS_sL, mI_sR, mL_sR, mR_s1, mR_s2, mK_sR, mS_sR, mA_s1, mA_s2, mL_sA, mR_sA, mK_sA, mS_sA, ix_n, ix_a, ix_m, ix_s, z_sw, z_stop, forall_const, true_implies, false_implies, imp_self, implies_true, not_true_eq_false, not_false_eq_true, ne_eq, eq_self, Option.some.injEq, reduceCtorEq, Nat.reduceAdd, Nat.reduceSub, Nat.reduceMul, Nat.reduceEqDiff, Nat.reduceLT, Nat.reduceLeDiff, Int.reduceAdd, Int.reduceMul, Int.reduceSub, Int.reduceNeg, Int.reduceToNat, Int.reduceLT, Int.reduceLE, Int.reduceEq, ↓reduceIte, List.reverse_cons, Option.toList, List.cons_append, List.nil_append, vI_inj, vL_inj, vO_inj, rI, rL, rO, rV, mI_sQ, mL_sQ, mK_sQ, mS_sQ, mQ_s1, mQ_s2, iL_and, iL_or, iL_xor, iL_shl, iL_ushr, iR_and, iR_or, iR_xor, iR_shl, iR_shr, iR_ushr, iR_cmp, yc0, tlX8_range, tkX8_range, o_aload, o_dup, o_dup2, o_getI, o_getR, o_goto, o_iadd, o_iald, o_iast, o_ic, o_icge, o_icne, o_ifeq, o_iinc, o_iload, o_ior, o_istore, o_putI, o_vret]
  try simp +contextual (disch := omega) only [impF, impT, and_true, true_and, implies_true, not_false_eq_true, not_true_eq_false]
  exact h0
