/-! State: the methods that write -/
def sQ (h : zH) (a : Nat) (f : Nat → Option Nat) : zH := (h.1, gI h, gL h, (fun b j => if b = a then f j else gR h b j))
theorem mI_sQ (h : zH) (a : Nat) (f : Nat → Option Nat) : gI (sQ h a f) = gI h := rfl
theorem mL_sQ (h : zH) (a : Nat) (f : Nat → Option Nat) : gL (sQ h a f) = gL h := rfl
theorem mK_sQ (h : zH) (a : Nat) (f : Nat → Option Nat) : gK (sQ h a f) = gK h := rfl
theorem mS_sQ (h : zH) (a : Nat) (f : Nat → Option Nat) : gS (sQ h a f) = gS h := rfl
theorem mQ_s1 (h : zH) (a : Nat) (f : Nat → Option Nat) (j : Nat) : gR (sQ h a f) a j = f j := by simp [sQ, gR]
theorem mQ_s2 (h : zH) {a : Nat} (f : Nat → Option Nat) {b : Nat} (j : Nat) (hn : b ≠ a) : gR (sQ h a f) b j = gR h b j := by simp [sQ, gR, hn]
theorem sR_sQ (h : zH) (a k : Nat) (z : Option Nat) (f : Nat → Option Nat) : sR (sQ h a f) a k z = sQ h a (up f k z) := by
  refine zH_ext rfl rfl rfl ?_
  funext b j
  simp only [sR, sQ, gR, up]
  by_cases hb : b = a
  · subst hb; by_cases hj : j = k <;> simp [hj]
  · simp [hb]
theorem sQ_self (h : zH) (a : Nat) : sQ h a (gR h a) = h := by
  refine zH_ext rfl rfl rfl ?_
  funext b j
  simp only [sQ, gR]
  by_cases hb : b = a <;> simp [hb]
theorem Fr.sQ (S : Nat → Prop) (h : zH) (a : Nat) (f : Nat → Option Nat) (ha : S a) : Fr S h (sQ h a f) := ⟨rfl, fun b hb => ⟨rfl, rfl, by funext j; exact mQ_s2 h f (a := a) (b := b) j (fun q => hb (by rw [q]; exact ha))⟩⟩
def insP (f : Nat → Int) (v : Int) : Nat → Nat
  | 0 => 0
  | k + 1 => if v < f k then insP f v k else k + 1
def insF (f : Nat → Int) (j : Nat) (v : Int) (i : Nat) : Int := if i < j then f i else if i = j then v else f (i - 1)
def remF (f : Nat → Int) (j i : Nat) : Int := if i < j then f i else f (i + 1)
def insA (A : zA) (p : Nat) (v : Int) : zA := ((up (aN A) p (aN A p + 1), up (aV A) p (insF (aV A p) (insP (aV A p) v (aN A p)) v), aL A), A.2)
def remA (A : zA) (p j : Nat) : zA := ((up (aN A) p (aN A p - 1), up (aV A) p (remF (aV A p) j), aL A), A.2)
theorem insP_le (f : Nat → Int) (v : Int) : ∀ n, insP f v n ≤ n
  | 0 => Nat.le_refl _
  | n + 1 => by simp only [insP]; split; exact Nat.le_succ_of_le (insP_le f v n); exact Nat.le_refl _
set_option maxHeartbeats 4000000 in
theorem sp_insertVersion (l : Launch) (G : zG) (h : zH) (a p : Nat) (v : Int) (A : zA) (hS : StOK h a A) (hA : AOK A) (hp : p < 8) (hvr : InR v) (hfull : aN A p < 4) (ha : a + 4 < 109) (lv : Nat) (hlv : 4 ≤ lv) : z_Sp l G mtX6_insertVersion lv 0 0 [vR a, vI p, vI v] h (fun r h' => r = none ∧ Fr (fun c => c = a + 1 ∨ c = a + 2) h h' ∧ StOK h' a (insA A p v)) := by
  have hS0 := hS
  obtain ⟨⟨k0, k1, k2, k3, k4, r0, r1, r2, r3, hty⟩, hn, hv, hl, hc, hf, hru⟩ := hS
  unfold InR at hvr
  refine x_enter [vR a, vI p, vI v, vJ, vJ] (by decide +kernel) (by omega) rfl (Nat.le_of_ble_eq_true rfl) ?_
  refine z_run1 tsX6_insertVersion [] 10 ?_
  simp +contextual (disch := omega) only [z_wp_s, z_wp_0, pI_e, pL_e, pO_e, pR_e, p1_I, p1_O, z_gl, z_st1, z_st2, z_nl_I, z_nl_O, z_nl_J, z_nl_L, if_true, if_false, ite_true, ite_false, true_and, and_true, List.mem_cons, List.not_mem_nil, or_false, false_or, or_self, List.length_cons, List.length_nil, InR_t, InL_t, z_ix_t, mI_s1, mI_s2, ↓brT, ↓brF, ↓brT', ↓brF', mL_sI, mR_sI, mK_sI, mS_sI, mI_sL, mL_s1, mL_s2, mR_sL, mK_sL, mS_sL, mI_sR, mL_sR, mR_s1, mR_s2, mK_sR, mS_sR, mA_s1, mA_s2, mL_sA, mR_sA, mK_sA, mS_sA, ix_n, ix_a, ix_m, ix_s, z_sw, z_stop, forall_const, true_implies, false_implies, imp_self, implies_true, not_true_eq_false, not_false_eq_true, ne_eq, eq_self, Option.some.injEq, reduceCtorEq, Nat.reduceAdd, Nat.reduceSub, Nat.reduceMul, Nat.reduceEqDiff, Nat.reduceLT, Nat.reduceLeDiff, Int.reduceAdd, Int.reduceMul, Int.reduceSub, Int.reduceNeg, Int.reduceToNat, Int.reduceLT, Int.reduceLE, Int.reduceEq, ↓reduceIte, List.reverse_cons, Option.toList, List.cons_append, List.nil_append, vI_inj, vL_inj, vO_inj, rI, rL, rO, rV, tlX6_insertVersion, tkX6_insertVersion, o_aload, o_dup2, o_getR, o_goto, o_iadd, o_iald, o_iast, o_ic, o_icle, o_ifeq, o_ifle, o_iinc, o_iload, o_imul, o_istore, o_isub, o_vret]
  refine x_callN (by decide +kernel) cv_X6_40 (sp_isPack1 l G _ _ (by omega) 1 (by omega)) (by omega) rfl (by omega) (by omega) rfl (Nat.le_of_ble_eq_true rfl) ?_
  rintro r h' ⟨rfl, rfl⟩
  refine z_run1 tsX6_insertVersion [] 10 ?_
  simp +contextual (disch := omega) only [z_wp_s, z_wp_0, pI_e, pL_e, pO_e, pR_e, p1_I, p1_O, z_gl, z_st1, z_st2, z_nl_I, z_nl_O, z_nl_J, z_nl_L, if_true, if_false, ite_true, ite_false, true_and, and_true, List.mem_cons, List.not_mem_nil, or_false, false_or, or_self, List.length_cons, List.length_nil, InR_t, InL_t, z_ix_t, mI_s1, mI_s2, ↓brT, ↓brF, ↓brT', ↓brF', mL_sI, mR_sI, mK_sI, mS_sI, mI_sL, mL_s1, mL_s2, mR_sL, mK_sL, mS_sL, mI_sR, mL_sR, mR_s1, mR_s2, mK_sR, mS_sR, mA_s1, mA_s2, mL_sA, mR_sA, mK_sA, mS_sA, ix_n, ix_a, ix_m, ix_s, z_sw, z_stop, forall_const, true_implies, false_implies, imp_self, implies_true, not_true_eq_false, not_false_eq_true, ne_eq, eq_self, Option.some.injEq, reduceCtorEq, Nat.reduceAdd, Nat.reduceSub, Nat.reduceMul, Nat.reduceEqDiff, Nat.reduceLT, Nat.reduceLeDiff, Int.reduceAdd, Int.reduceMul, Int.reduceSub, Int.reduceNeg, Int.reduceToNat, Int.reduceLT, Int.reduceLE, Int.reduceEq, ↓reduceIte, List.reverse_cons, Option.toList, List.cons_append, List.nil_append, vI_inj, vL_inj, vO_inj, rI, rL, rO, rV, tlX6_insertVersion, tkX6_insertVersion, o_aload, o_dup2, o_getR, o_goto, o_iadd, o_iald, o_iast, o_ic, o_icle, o_ifeq, o_ifle, o_iinc, o_iload, o_imul, o_istore, o_isub, o_vret]
  refine x_callV (by decide +kernel) cv_X6_48 (sp_isFullAt l G _ a p A hS0 hA hp 3 (by omega)) k0 (by omega) rfl (by omega) (by omega) rfl (Nat.le_of_ble_eq_true rfl) ?_
  rintro r h'' ⟨rfl, rfl⟩
  rw [if_neg (by omega)]
  refine z_run1 tsX6_insertVersion [28] 30 ?_
  simp +contextual (disch := omega) only [z_wp_s, z_wp_0, pI_e, pL_e, pO_e, pR_e, p1_I, p1_O, z_gl, z_st1, z_st2, z_nl_I, z_nl_O, z_nl_J, z_nl_L, if_true, if_false, ite_true, ite_false, true_and, and_true, List.mem_cons, List.not_mem_nil, or_false, false_or, or_self, List.length_cons, List.length_nil, InR_t, InL_t, z_ix_t, mI_s1, mI_s2, ↓brT, ↓brF, ↓brT', ↓brF', mL_sI, mR_sI, mK_sI, mS_sI, mI_sL, mL_s1, mL_s2, mR_sL, mK_sL, mS_sL, mI_sR, mL_sR, mR_s1, mR_s2, mK_sR, mS_sR, mA_s1, mA_s2, mL_sA, mR_sA, mK_sA, mS_sA, ix_n, ix_a, ix_m, ix_s, z_sw, z_stop, forall_const, true_implies, false_implies, imp_self, implies_true, not_true_eq_false, not_false_eq_true, ne_eq, eq_self, Option.some.injEq, reduceCtorEq, Nat.reduceAdd, Nat.reduceSub, Nat.reduceMul, Nat.reduceEqDiff, Nat.reduceLT, Nat.reduceLeDiff, Int.reduceAdd, Int.reduceMul, Int.reduceSub, Int.reduceNeg, Int.reduceToNat, Int.reduceLT, Int.reduceLE, Int.reduceEq, ↓reduceIte, List.reverse_cons, Option.toList, List.cons_append, List.nil_append, vI_inj, vL_inj, vO_inj, rI, rL, rO, rV, tlX6_insertVersion, tkX6_insertVersion, o_aload, o_dup2, o_getR, o_goto, o_iadd, o_iald, o_iast, o_ic, o_icle, o_ifeq, o_ifle, o_iinc, o_iload, o_imul, o_istore, o_isub, o_vret, k0, k2, r1, hn]
  have hlo : ∀ (k : Nat) (g : Nat → Int), (∀ j, g j = if p * 4 + k < j ∧ j ≤ p * 4 + aN A p then gI h'' (a + 1) (j - 1) else gI h'' (a + 1) j) → k ≤ aN A p → insP (aV A p) v (aN A p) = insP (aV A p) v k → z_X l G mtX6_insertVersion lv 0 0 (fun r h' => r = none ∧ Fr (fun c => c = a + 1 ∨ c = a + 2) h'' h' ∧ StOK h' a (insA A p v)) 0 0 (sA h'' (a + 1) g) 28 [vR a, vI p, vI v, vI (p * 4), vI k] [] := by
    intro k
    have fin : ∀ (k : Nat) (g : Nat → Int), (∀ j, g j = if p * 4 + k < j ∧ j ≤ p * 4 + aN A p then gI h'' (a + 1) (j - 1) else gI h'' (a + 1) j) → k ≤ aN A p → insP (aV A p) v (aN A p) = k → z_X l G mtX6_insertVersion lv 0 0 (fun r h' => r = none ∧ Fr (fun c => c = a + 1 ∨ c = a + 2) h'' h' ∧ StOK h' a (insA A p v)) 0 0 (sA h'' (a + 1) g) 74 [vR a, vI p, vI v, vI (p * 4), vI k] [] := by
      intro k g hg hk he
      refine z_run1 tsX6_insertVersion [28] 30 ?_
      simp +contextual (disch := omega) only [z_wp_s, z_wp_0, pI_e, pL_e, pO_e, pR_e, p1_I, p1_O, z_gl, z_st1, z_st2, z_nl_I, z_nl_O, z_nl_J, z_nl_L, if_true, if_false, ite_true, ite_false, true_and, and_true, List.mem_cons, List.not_mem_nil, or_false, false_or, or_self, List.length_cons, List.length_nil, InR_t, InL_t, z_ix_t, mI_s1, mI_s2, ↓brT, ↓brF, ↓brT', ↓brF', mL_sI, mR_sI, mK_sI, mS_sI, mI_sL, mL_s1, mL_s2, mR_sL, mK_sL, mS_sL, mI_sR, mL_sR, mR_s1, mR_s2, mK_sR, mS_sR, mA_s1, mA_s2, mL_sA, mR_sA, mK_sA, mS_sA, ix_n, ix_a, ix_m, ix_s, z_sw, z_stop, forall_const, true_implies, false_implies, imp_self, implies_true, not_true_eq_false, not_false_eq_true, ne_eq, eq_self, Option.some.injEq, reduceCtorEq, Nat.reduceAdd, Nat.reduceSub, Nat.reduceMul, Nat.reduceEqDiff, Nat.reduceLT, Nat.reduceLeDiff, Int.reduceAdd, Int.reduceMul, Int.reduceSub, Int.reduceNeg, Int.reduceToNat, Int.reduceLT, Int.reduceLE, Int.reduceEq, ↓reduceIte, List.reverse_cons, Option.toList, List.cons_append, List.nil_append, vI_inj, vL_inj, vO_inj, rI, rL, rO, rV, tlX6_insertVersion, tkX6_insertVersion, o_aload, o_dup2, o_getR, o_goto, o_iadd, o_iald, o_iast, o_ic, o_icle, o_ifeq, o_ifle, o_iinc, o_iload, o_imul, o_istore, o_isub, o_vret, k0, k1, k2, r0, r1, hn]
      refine ⟨?_, ⟨k0, k1, k2, k3, k4, r0, r1, r2, r3, hty⟩, ?_, ?_, ?_, ?_, ?_, ?_⟩
      · exact ((Fr.sA _ _ _ _ (Or.inl rfl)).tr' (Fr.sI _ _ _ _ _ (Or.inl rfl)) (fun _ q => q) (fun _ q => q)).tr' (Fr.sI _ _ _ _ _ (Or.inr rfl)) (fun _ q => q) (fun _ q => q)
      · intro q hq
        by_cases hqp : q = p
        · subst hqp
          rw [mI_s1]
          simp [insA, aN, up]
        · rw [mI_s2 _ _ (Or.inr hqp), mI_s2 _ _ (Or.inl (by omega)), mA_s2 _ _ _ (by omega), hn q hq]
          simp [insA, aN, up, hqp]
      · intro q i hq hi
        have hi4 : i < 4 := by
          by_cases hqp : q = p
          · subst hqp
            simp [insA, aN, up] at hi
            have : aN A q < 4 := hfull
            unfold aN at this
            omega
          · simp [insA, aN, up, hqp] at hi
            have := hA.1 q hq
            unfold aN at this
            omega
        rw [mI_s2 _ _ (Or.inl (by omega))]
        by_cases hqp : q = p
        · subst hqp
          have hi2 : i < aN A q + 1 := by simpa [insA, aN, up] using hi
          have e : aV (insA A q v) q i = insF (aV A q) k v i := by simp [insA, aV, up, ← he, aN]
          rw [e]
          unfold insF
          by_cases h1 : i = k
          · subst h1
            rw [mI_s1, if_neg (by omega), if_pos rfl]
          · rw [mI_s2 _ _ (Or.inr (by omega)), mA_s1]
            by_cases h2 : i < k
            · rw [if_pos h2, hg, if_neg (by omega), hv q i hq (by omega)]
            · rw [if_neg h2, if_neg h1, hg, if_pos (by omega), show q * 4 + i - 1 = q * 4 + (i - 1) by omega, hv q (i - 1) hq (by omega)]
        · have hi2 : i < aN A q := by simpa [insA, aN, up, hqp] using hi
          have e : aV (insA A p v) q i = aV A q i := by simp [insA, aV, up, hqp]
          rw [e, mI_s2 _ _ (Or.inr (by omega)), mA_s1, hg, if_neg (by omega), hv q i hq hi2]
      · intro q hq
        rw [mI_s2 _ _ (Or.inl (by omega)), mI_s2 _ _ (Or.inl (by omega)), mA_s2 _ _ _ (by omega)]
        exact hl q hq
      · rw [mI_s2 _ _ (Or.inl (by omega)), mI_s2 _ _ (Or.inl (by omega)), mA_s2 _ _ _ (by omega)]
        exact hc
      · rw [mI_s2 _ _ (Or.inl (by omega)), mI_s2 _ _ (Or.inl (by omega)), mA_s2 _ _ _ (by omega)]
        exact hf
      · intro r hr
        obtain ⟨q, g1, g2⟩ := hru r hr
        exact ⟨q, g1, g2.fr (((Fr.sA (fun c => c = a + 1 ∨ c = a + 2) _ _ _ (Or.inl rfl)).tr' (Fr.sI _ _ _ _ _ (Or.inl rfl)) (fun _ q => q) (fun _ q => q)).tr' (Fr.sI _ _ _ _ _ (Or.inr rfl)) (fun _ q => q) (fun _ q => q)) (fun q hq => by omega)⟩
    induction k with
    | zero =>
      intro g hg hk he
      refine z_run1 tsX6_insertVersion [28, 74] 30 ?_
      simp +contextual (disch := omega) only [z_wp_s, z_wp_0, pI_e, pL_e, pO_e, pR_e, p1_I, p1_O, z_gl, z_st1, z_st2, z_nl_I, z_nl_O, z_nl_J, z_nl_L, if_true, if_false, ite_true, ite_false, true_and, and_true, List.mem_cons, List.not_mem_nil, or_false, false_or, or_self, List.length_cons, List.length_nil, InR_t, InL_t, z_ix_t, mI_s1, mI_s2, ↓brT, ↓brF, ↓brT', ↓brF', mL_sI, mR_sI, mK_sI, mS_sI, mI_sL, mL_s1, mL_s2, mR_sL, mK_sL, mS_sL, mI_sR, mL_sR, mR_s1, mR_s2, mK_sR, mS_sR, mA_s1, mA_s2, mL_sA, mR_sA, mK_sA, mS_sA, ix_n, ix_a, ix_m, ix_s, z_sw, z_stop, forall_const, true_implies, false_implies, imp_self, implies_true, not_true_eq_false, not_false_eq_true, ne_eq, eq_self, Option.some.injEq, reduceCtorEq, Nat.reduceAdd, Nat.reduceSub, Nat.reduceMul, Nat.reduceEqDiff, Nat.reduceLT, Nat.reduceLeDiff, Int.reduceAdd, Int.reduceMul, Int.reduceSub, Int.reduceNeg, Int.reduceToNat, Int.reduceLT, Int.reduceLE, Int.reduceEq, ↓reduceIte, List.reverse_cons, Option.toList, List.cons_append, List.nil_append, vI_inj, vL_inj, vO_inj, rI, rL, rO, rV, tlX6_insertVersion, tkX6_insertVersion, o_aload, o_dup2, o_getR, o_goto, o_iadd, o_iald, o_iast, o_ic, o_icle, o_ifeq, o_ifle, o_iinc, o_iload, o_imul, o_istore, o_isub, o_vret, k0, k1, k2, r0, r1, hn]
      exact fin 0 g hg hk he
    | succ k ih =>
      intro g hg hk he
      have hvk := hv p k hp (by omega)
      have hbk := hA.2.1 p k hp (by omega)
      simp only [insP] at he
      have e1 : g (p * 4 + (k + 1) - 1) = aV A p k := by rw [hg, if_neg (by omega), show p * 4 + (k + 1) - 1 = p * 4 + k by omega, hvk]
      refine z_run1 tsX6_insertVersion [28, 74] 40 ?_
      simp +contextual (disch := omega) only [z_wp_s, z_wp_0, pI_e, pL_e, pO_e, pR_e, p1_I, p1_O, z_gl, z_st1, z_st2, z_nl_I, z_nl_O, z_nl_J, z_nl_L, if_true, if_false, ite_true, ite_false, true_and, and_true, List.mem_cons, List.not_mem_nil, or_false, false_or, or_self, List.length_cons, List.length_nil, InR_t, InL_t, z_ix_t, mI_s1, mI_s2, ↓brT, ↓brF, ↓brT', ↓brF', mL_sI, mR_sI, mK_sI, mS_sI, mI_sL, mL_s1, mL_s2, mR_sL, mK_sL, mS_sL, mI_sR, mL_sR, mR_s1, mR_s2, mK_sR, mS_sR, mA_s1, mA_s2, mL_sA, mR_sA, mK_sA, mS_sA, ix_n, ix_a, ix_m, ix_s, z_sw, z_stop, forall_const, true_implies, false_implies, imp_self, implies_true, not_true_eq_false, not_false_eq_true, ne_eq, eq_self, Option.some.injEq, reduceCtorEq, Nat.reduceAdd, Nat.reduceSub, Nat.reduceMul, Nat.reduceEqDiff, Nat.reduceLT, Nat.reduceLeDiff, Int.reduceAdd, Int.reduceMul, Int.reduceSub, Int.reduceNeg, Int.reduceToNat, Int.reduceLT, Int.reduceLE, Int.reduceEq, ↓reduceIte, List.reverse_cons, Option.toList, List.cons_append, List.nil_append, vI_inj, vL_inj, vO_inj, rI, rL, rO, rV, tlX6_insertVersion, tkX6_insertVersion, o_aload, o_dup2, o_getR, o_goto, o_iadd, o_iald, o_iast, o_ic, o_icle, o_ifeq, o_ifle, o_iinc, o_iload, o_imul, o_istore, o_isub, o_vret, k0, k1, k2, r0, r1, hn, e1, sI_sA]
      refine ⟨fun q => ?_, fun q => ?_⟩
      · refine fin (k + 1) g hg hk ?_
        rw [he, if_neg (by omega)]
      · rw [show ((k + 1 : Nat) : Int) + -1 = (k : Int) by omega]
        refine ih _ (fun j => ?_) (by omega) ?_
        · unfold up
          by_cases hj : j = p * 4 + (k + 1)
          · rw [if_pos hj, if_pos (by omega), hj, show p * 4 + (k + 1) - 1 = p * 4 + k by omega, hvk]
          · rw [if_neg hj, hg]
            by_cases h2 : p * 4 + (k + 1) < j ∧ j ≤ p * 4 + aN A p
            · rw [if_pos h2, if_pos (by omega)]
            · rw [if_neg h2, if_neg (by omega)]
        · rw [he, if_pos (by omega)]
  have h0 := hlo (aN A p) (gI h'' (a + 1)) (fun j => by rw [if_neg (by omega)]) (by omega) rfl
  rw [sA_self] at h0
  exact h0
