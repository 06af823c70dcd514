/-! Range.trimmed, RuleText.makeRule -/
set_option maxHeartbeats 4000000 in
theorem sp_trimmed (l : Launch) (G : zG) (h : zH) (q N n : Nat) (hR : RgP h q N n) (hq : q + 2 < gS h) (lv : Nat) (hlv : 3 ≤ lv) : z_Sp l G mtX3_trimmed lv 3 43 [vR q] (h) (fun r h' => r = some (vR (gS h)) ∧ Fx h h' ∧ gS h' = gS h + 3 ∧ RgP h' (gS h) n n ∧ ∀ i, i < n → gI h' (gS h + 1) i = gI h (q + 1) i ∧ gI h' (gS h + 2) i = gI h (q + 2) i) := by
  have hR0 := hR
  obtain ⟨⟨k0, k1, k2, r0, r1, hN⟩, hn, hnN, hb⟩ := hR
  generalize hs : gS h = s at hq ⊢
  refine x_enter [vR q, vJ, vJ] (by decide +kernel) (by omega) rfl (Nat.le_of_ble_eq_true rfl) ?_
  generalize hQ : (fun (r : Option zV) (h' : zH) => r = some (vR s) ∧ Fx h h' ∧ gS h' = s + 3 ∧ RgP h' s n n ∧ ∀ i, i < n → gI h' (s + 1) i = gI h (q + 1) i ∧ gI h' (s + 2) i = gI h (q + 2) i) = QQ
  have hlo : ∀ (d i : Nat) (h3 : zH), i + d = n → Fx h h3 → gS h3 = s + 3 → RgP h3 s n i → (∀ k, k < i → gI h3 (s + 1) k = gI h (q + 1) k ∧ gI h3 (s + 2) k = gI h (q + 2) k) → z_X l G mtX3_trimmed lv 3 43 (QQ) (3) (43) (h3) 14 [vR q, vR s, vI i] [] := by
    intro d
    induction d with
    | zero =>
      intro i h3 hi hx hz hP hc
      have e0 := hx.2 q (by omega)
      have e1 : (gK h3 q).1 = 3 := by rw [e0.1]; exact k0
      have e2 : gI h3 q 2 = (n : Int) := by rw [e0.2.1]; exact hn
      refine z_run1 tsX3_trimmed [14] 30 ?_
      simp (maxSteps := 1000000) -implicitDefEqProofs +contextual (disch := omega) only [z_wp_t, z_wp_u, ↓pI_e, ↓pL_e, ↓pO_e, ↓pR_e, ↓p1_I, ↓p1_O, z_gl, z_st1, z_st2, z_nl_I, z_nl_O, z_nl_J, z_nl_L, if_true, if_false, ite_true, ite_false, true_and, and_true, List.mem_cons, List.not_mem_nil, or_false, false_or, or_self, List.length_cons, List.length_nil, InR_t, InL_t, z_ix_t, mI_s1, mI_s2, ↓brT, ↓brF, ↓brT', ↓brF', mL_sI, mR_sI, mK_sI, mS_sI, mI_sL, mL_s1, mL_s2, mR_sL, mK_sL, mS_sL, mI_sR, mL_sR, mR_s1, mR_s2, mK_sR, mS_sR, mA_s1, mA_s2, mL_sA, mR_sA, mK_sA, mS_sA, ix_n, ix_a, ix_m, ix_s, z_sw, z_stop, forall_const, true_implies, false_implies, imp_self, implies_true, not_true_eq_false, not_false_eq_true, ne_eq, eq_self, Option.some.injEq, reduceCtorEq, Nat.reduceAdd, Nat.reduceSub, Nat.reduceMul, Nat.reduceEqDiff, Nat.reduceLT, Nat.reduceLeDiff, Int.reduceAdd, Int.reduceMul, Int.reduceSub, Int.reduceNeg, Int.reduceToNat, Int.reduceLT, Int.reduceLE, Int.reduceEq, ↓reduceIte, List.reverse_cons, Option.toList, List.cons_append, List.nil_append, vI_inj, vL_inj, vO_inj, rI, rL, rO, rV, mI_sQ, mL_sQ, mK_sQ, mS_sQ, mQ_s1, mQ_s2, tlX3_trimmed, tkX3_trimmed, o_aload, o_aret, o_astore, o_dup, o_getI, o_getR, o_goto, o_iald, o_ic, o_icge, o_iinc, o_iload, o_istore, e1, e2]
      try simp +contextual (disch := omega) only [impF, impT, and_true, true_and, implies_true, not_false_eq_true, not_true_eq_false]
      rw [← hQ]
      obtain rfl : i = n := by omega
      exact ⟨rfl, hx, hz, hP, hc⟩
    | succ d ih =>
      intro i h3 hi hx hz hP hc
      have e0 := hx.2 q (by omega)
      have f1 := hx.2 (q + 1) (by omega)
      have f2 := hx.2 (q + 2) (by omega)
      have e1 : (gK h3 q).1 = 3 := by rw [e0.1]; exact k0
      have e2 : gI h3 q 2 = (n : Int) := by rw [e0.2.1]; exact hn
      have e3 : gR h3 q 0 = some (q + 1) := by rw [e0.2.2.2]; exact r0
      have e4 : gR h3 q 1 = some (q + 2) := by rw [e0.2.2.2]; exact r1
      have e5 : gK h3 (q + 1) = (9, N) := by rw [f1.1]; exact k1
      have e6 : gK h3 (q + 2) = (9, N) := by rw [f2.1]; exact k2
      have hv := hb i (by omega)
      have v1 : gI h3 (q + 1) i = gI h (q + 1) i := by rw [f1.2.1]
      have v2 : gI h3 (q + 2) i = gI h (q + 2) i := by rw [f2.2.1]
      have hfr : Fr (fun c => s ≤ c) h3 (sI (sI (sI h3 (s + 1) i (gI h (q + 1) i)) (s + 2) i (gI h (q + 2) i)) s 2 (i + 1)) := Fr.tr' (Fr.tr' (Fr.sI (fun c => s ≤ c) _ _ _ _ (by omega)) (Fr.sI (fun c => s ≤ c) _ _ _ _ (by omega)) (fun _ q => q) (fun _ q => q)) (Fr.sI (fun c => s ≤ c) _ _ _ _ (Nat.le_refl s)) (fun _ q => q) (fun _ q => q)
      have w1 : ∀ k, gI (sI (sI (sI h3 (s + 1) i (gI h (q + 1) i)) (s + 2) i (gI h (q + 2) i)) s 2 (i + 1)) (s + 1) k = if k = i then gI h (q + 1) i else gI h3 (s + 1) k := by
        intro k
        rw [mI_s2 _ _ (Or.inl (by omega)), mI_s2 _ _ (Or.inl (by omega)), mI_sI]
        by_cases hk : k = i <;> simp [hk]
      have w2 : ∀ k, gI (sI (sI (sI h3 (s + 1) i (gI h (q + 1) i)) (s + 2) i (gI h (q + 2) i)) s 2 (i + 1)) (s + 2) k = if k = i then gI h (q + 2) i else gI h3 (s + 2) k := by
        intro k
        rw [mI_s2 _ _ (Or.inl (by omega)), mI_sI]
        by_cases hk : k = i
        · simp [hk]
        · rw [if_neg (by omega), if_neg hk, mI_s2 _ _ (Or.inl (by omega))]
      have hnx := ih (i + 1) (sI (sI (sI h3 (s + 1) i (gI h (q + 1) i)) (s + 2) i (gI h (q + 2) i)) s 2 (i + 1)) (by omega) (hx.fr hfr (fun a ha => by omega)) hz ⟨hP.1, by rw [mI_s1]; omega, by omega, fun k hk => by
          rw [w1, w2]
          by_cases hki : k = i
          · rw [if_pos hki, if_pos hki]; exact hv
          · rw [if_neg hki, if_neg hki]; exact hP.2.2.2 k (by omega)⟩ (fun k hk => by
          rw [w1, w2]
          by_cases hki : k = i
          · rw [if_pos hki, if_pos hki, hki]; exact ⟨rfl, rfl⟩
          · rw [if_neg hki, if_neg hki]; exact hc k (by omega))
      refine z_run1 tsX3_trimmed [14] 30 ?_
      simp (maxSteps := 1000000) -implicitDefEqProofs +contextual (disch := omega) only [z_wp_t, z_wp_u, ↓pI_e, ↓pL_e, ↓pO_e, ↓pR_e, ↓p1_I, ↓p1_O, z_gl, z_st1, z_st2, z_nl_I, z_nl_O, z_nl_J, z_nl_L, if_true, if_false, ite_true, ite_false, true_and, and_true, List.mem_cons, List.not_mem_nil, or_false, false_or, or_self, List.length_cons, List.length_nil, InR_t, InL_t, z_ix_t, mI_s1, mI_s2, ↓brT, ↓brF, ↓brT', ↓brF', mL_sI, mR_sI, mK_sI, mS_sI, mI_sL, mL_s1, mL_s2, mR_sL, mK_sL, mS_sL, mI_sR, mL_sR, mR_s1, mR_s2, mK_sR, mS_sR, mA_s1, mA_s2, mL_sA, mR_sA, mK_sA, mS_sA, ix_n, ix_a, ix_m, ix_s, z_sw, z_stop, forall_const, true_implies, false_implies, imp_self, implies_true, not_true_eq_false, not_false_eq_true, ne_eq, eq_self, Option.some.injEq, reduceCtorEq, Nat.reduceAdd, Nat.reduceSub, Nat.reduceMul, Nat.reduceEqDiff, Nat.reduceLT, Nat.reduceLeDiff, Int.reduceAdd, Int.reduceMul, Int.reduceSub, Int.reduceNeg, Int.reduceToNat, Int.reduceLT, Int.reduceLE, Int.reduceEq, ↓reduceIte, List.reverse_cons, Option.toList, List.cons_append, List.nil_append, vI_inj, vL_inj, vO_inj, rI, rL, rO, rV, mI_sQ, mL_sQ, mK_sQ, mS_sQ, mQ_s1, mQ_s2, tlX3_trimmed, tkX3_trimmed, o_aload, o_aret, o_astore, o_dup, o_getI, o_getR, o_goto, o_iald, o_ic, o_icge, o_iinc, o_iload, o_istore, e1, e2, e3, e4, e5, e6, v1, v2]
      try simp +contextual (disch := omega) only [impF, impT, and_true, true_and, implies_true, not_false_eq_true, not_true_eq_false]
      refine x_callV (by decide +kernel) cv_X3_29 (sp_Rg_append l G h3 s n i (gI h (q + 1) i) (gI h (q + 2) i) hP 1 (by omega)) hP.1.1 (by omega) rfl (by omega) (by omega) rfl (Nat.le_of_ble_eq_true rfl) ?_
      rintro r h' ⟨rfl, rfl⟩
      rw [if_pos (by omega)]
      refine z_run1 tsX3_trimmed [14] 30 ?_
      simp (maxSteps := 1000000) -implicitDefEqProofs +contextual (disch := omega) only [z_wp_t, z_wp_u, ↓pI_e, ↓pL_e, ↓pO_e, ↓pR_e, ↓p1_I, ↓p1_O, z_gl, z_st1, z_st2, z_nl_I, z_nl_O, z_nl_J, z_nl_L, if_true, if_false, ite_true, ite_false, true_and, and_true, List.mem_cons, List.not_mem_nil, or_false, false_or, or_self, List.length_cons, List.length_nil, InR_t, InL_t, z_ix_t, mI_s1, mI_s2, ↓brT, ↓brF, ↓brT', ↓brF', mL_sI, mR_sI, mK_sI, mS_sI, mI_sL, mL_s1, mL_s2, mR_sL, mK_sL, mS_sL, mI_sR, mL_sR, mR_s1, mR_s2, mK_sR, mS_sR, mA_s1, mA_s2, mL_sA, mR_sA, mK_sA, mS_sA, ix_n, ix_a, ix_m, ix_s, z_sw, z_stop, forall_const, true_implies, false_implies, imp_self, implies_true, not_true_eq_false, not_false_eq_true, ne_eq, eq_self, Option.some.injEq, reduceCtorEq, Nat.reduceAdd, Nat.reduceSub, Nat.reduceMul, Nat.reduceEqDiff, Nat.reduceLT, Nat.reduceLeDiff, Int.reduceAdd, Int.reduceMul, Int.reduceSub, Int.reduceNeg, Int.reduceToNat, Int.reduceLT, Int.reduceLE, Int.reduceEq, ↓reduceIte, List.reverse_cons, Option.toList, List.cons_append, List.nil_append, vI_inj, vL_inj, vO_inj, rI, rL, rO, rV, mI_sQ, mL_sQ, mK_sQ, mS_sQ, mQ_s1, mQ_s2, tlX3_trimmed, tkX3_trimmed, o_aload, o_aret, o_astore, o_dup, o_getI, o_getR, o_goto, o_iald, o_ic, o_icge, o_iinc, o_iload, o_istore]
      try simp +contextual (disch := omega) only [impF, impT, and_true, true_and, implies_true, not_false_eq_true, not_true_eq_false]
      exact hnx
  refine x_new 3 (by decide +kernel) (by decide) lw_X3_14 nw_X3 in_X3 (by omega) (by decide) ?_
  rw [hs, show z_nf 3 = 3 from rfl]
  have e1 : (gK (nC h (3, 0)) q).1 = 3 := by rw [mK_n2 _ _ (by omega)]; exact k0
  have e2 : gI (nC h (3, 0)) q 2 = (n : Int) := by rw [mI_n2 _ _ (by omega)]; exact hn
  have es : (gK (nC h (3, 0)) s).1 = 3 := by rw [← hs, mK_n1]
  have hg1 : gS (nC h (3, 0)) = s + 1 := by rw [mS_nC, hs]
  refine z_run1 tsX3_trimmed [] 30 ?_
  simp (maxSteps := 1000000) -implicitDefEqProofs +contextual (disch := omega) only [z_wp_t, z_wp_u, ↓pI_e, ↓pL_e, ↓pO_e, ↓pR_e, ↓p1_I, ↓p1_O, z_gl, z_st1, z_st2, z_nl_I, z_nl_O, z_nl_J, z_nl_L, if_true, if_false, ite_true, ite_false, true_and, and_true, List.mem_cons, List.not_mem_nil, or_false, false_or, or_self, List.length_cons, List.length_nil, InR_t, InL_t, z_ix_t, mI_s1, mI_s2, ↓brT, ↓brF, ↓brT', ↓brF', mL_sI, mR_sI, mK_sI, mS_sI, mI_sL, mL_s1, mL_s2, mR_sL, mK_sL, mS_sL, mI_sR, mL_sR, mR_s1, mR_s2, mK_sR, mS_sR, mA_s1, mA_s2, mL_sA, mR_sA, mK_sA, mS_sA, ix_n, ix_a, ix_m, ix_s, z_sw, z_stop, forall_const, true_implies, false_implies, imp_self, implies_true, not_true_eq_false, not_false_eq_true, ne_eq, eq_self, Option.some.injEq, reduceCtorEq, Nat.reduceAdd, Nat.reduceSub, Nat.reduceMul, Nat.reduceEqDiff, Nat.reduceLT, Nat.reduceLeDiff, Int.reduceAdd, Int.reduceMul, Int.reduceSub, Int.reduceNeg, Int.reduceToNat, Int.reduceLT, Int.reduceLE, Int.reduceEq, ↓reduceIte, List.reverse_cons, Option.toList, List.cons_append, List.nil_append, vI_inj, vL_inj, vO_inj, rI, rL, rO, rV, mI_sQ, mL_sQ, mK_sQ, mS_sQ, mQ_s1, mQ_s2, tlX3_trimmed, tkX3_trimmed, o_aload, o_aret, o_astore, o_dup, o_getI, o_getR, o_goto, o_iald, o_ic, o_icge, o_iinc, o_iload, o_istore, e1, e2]
  try simp +contextual (disch := omega) only [impF, impT, and_true, true_and, implies_true, not_false_eq_true, not_true_eq_false]
  refine x_callI (by decide +kernel) cv_X3_26 (sp_RgInit l G (nC h (3, 0)) s n es (by omega) (by omega) 2 (by omega)) (by omega) rfl (by omega) (by omega) rfl (Nat.le_of_ble_eq_true rfl) ?_
  rintro r h' ⟨rfl, rfl⟩
  rw [hg1]
  generalize hh2 : sI (sR (nC (sR (nC (nC h (3, 0)) (9, n)) s 0 (some (s + 1))) (9, n)) s 1 (some (s + 1 + 1))) s 2 0 = h2
  have g1 : gS (sR (nC (nC h (3, 0)) (9, n)) s 0 (some (s + 1))) = s + 2 := by show gS (nC (nC h (3, 0)) (9, n)) = s + 2; rw [mS_nC, hg1]
  have x1 : Fx h (sR (nC (nC h (3, 0)) (9, n)) s 0 (some (s + 1))) := ((Fx.nC h _).tr (Fx.nC _ _)).fr (Fr.sR (fun c => s ≤ c) _ _ _ _ (Nat.le_refl s)) (fun a ha => by omega)
  have x2 : Fx h h2 := by
    rw [← hh2]
    exact (x1.tr (Fx.nC _ _)).fr ((Fr.sR (fun c => s ≤ c) _ _ _ _ (Nat.le_refl s)).tr' (Fr.sI (fun c => s ≤ c) _ _ _ _ (Nat.le_refl s)) (fun _ q => q) (fun _ q => q)) (fun a ha => by omega)
  have g2 : gS h2 = s + 3 := by rw [← hh2]; show gS (nC (sR (nC (nC h (3, 0)) (9, n)) s 0 (some (s + 1))) (9, n)) = s + 3; rw [mS_nC, g1]
  have hP2 : RgP h2 s n 0 := by
    refine ⟨⟨?_, ?_, ?_, ?_, ?_, by omega⟩, by rw [← hh2, mI_s1]; rfl, by omega, fun i hi => by omega⟩
    · rw [← hh2, mK_sI, mK_sR, mK_n2 _ _ (by rw [g1]; omega), mK_sR, mK_n2 _ _ (by rw [hg1]; omega)]; exact es
    · rw [← hh2, mK_sI, mK_sR, mK_n2 _ _ (by rw [g1]; omega), mK_sR, ← hg1, mK_n1]
    · rw [← hh2, mK_sI, mK_sR, ← g1, mK_n1]
    · rw [← hh2, mR_sI, mR_s2 _ _ (Or.inr (by omega)), mR_n2 _ _ (by rw [g1]; omega), mR_s1]
    · rw [← hh2, mR_sI, mR_s1]
  have hnx := hlo n 0 h2 (by omega) x2 g2 hP2 (fun k hk => by omega)
  refine z_run1 tsX3_trimmed [14] 30 ?_
  simp (maxSteps := 1000000) -implicitDefEqProofs +contextual (disch := omega) only [z_wp_t, z_wp_u, ↓pI_e, ↓pL_e, ↓pO_e, ↓pR_e, ↓p1_I, ↓p1_O, z_gl, z_st1, z_st2, z_nl_I, z_nl_O, z_nl_J, z_nl_L, if_true, if_false, ite_true, ite_false, true_and, and_true, List.mem_cons, List.not_mem_nil, or_false, false_or, or_self, List.length_cons, List.length_nil, InR_t, InL_t, z_ix_t, mI_s1, mI_s2, ↓brT, ↓brF, ↓brT', ↓brF', mL_sI, mR_sI, mK_sI, mS_sI, mI_sL, mL_s1, mL_s2, mR_sL, mK_sL, mS_sL, mI_sR, mL_sR, mR_s1, mR_s2, mK_sR, mS_sR, mA_s1, mA_s2, mL_sA, mR_sA, mK_sA, mS_sA, ix_n, ix_a, ix_m, ix_s, z_sw, z_stop, forall_const, true_implies, false_implies, imp_self, implies_true, not_true_eq_false, not_false_eq_true, ne_eq, eq_self, Option.some.injEq, reduceCtorEq, Nat.reduceAdd, Nat.reduceSub, Nat.reduceMul, Nat.reduceEqDiff, Nat.reduceLT, Nat.reduceLeDiff, Int.reduceAdd, Int.reduceMul, Int.reduceSub, Int.reduceNeg, Int.reduceToNat, Int.reduceLT, Int.reduceLE, Int.reduceEq, ↓reduceIte, List.reverse_cons, Option.toList, List.cons_append, List.nil_append, vI_inj, vL_inj, vO_inj, rI, rL, rO, rV, mI_sQ, mL_sQ, mK_sQ, mS_sQ, mQ_s1, mQ_s2, tlX3_trimmed, tkX3_trimmed, o_aload, o_aret, o_astore, o_dup, o_getI, o_getR, o_goto, o_iald, o_ic, o_icge, o_iinc, o_iload, o_istore]
  try simp +contextual (disch := omega) only [impF, impT, and_true, true_and, implies_true, not_false_eq_true, not_true_eq_false]
  exact hnx
/-- a rule's parts as a predicate -/
def inL (l : List (Int × Int)) (v : Int) : Bool := l.any (fun x => decide (x.1 ≤ v ∧ v ≤ x.2))
theorem inL_iff {l : List (Int × Int)} {v : Int} : inL l v = true ↔ ∃ (i : Nat) (x : Int × Int), l[i]? = some x ∧ x.1 ≤ v ∧ v ≤ x.2 := by
  unfold inL
  rw [List.any_eq_true]
  constructor
  · rintro ⟨x, hx, hd⟩
    obtain ⟨i, hi⟩ := List.getElem?_of_mem hx
    exact ⟨i, x, hi, by simpa using hd⟩
  · rintro ⟨i, x, hi, hd⟩
    exact ⟨x, List.mem_of_getElem? hi, by simpa using hd⟩
theorem RgL.ok {h : zH} {q : Nat} {l : List (Int × Int)} (hr : RgL h q l) : RgOK h q 20 (inL l) := by
  refine ⟨l.length, hr.1, fun v _ _ => ?_⟩
  rw [inL_iff]
  constructor
  · rintro ⟨i, x, hi, hd⟩
    obtain ⟨e1, e2⟩ := hr.2 i x hi
    exact ⟨i, (List.getElem?_eq_some_iff.mp hi).1, by rw [e1, e2]; exact hd⟩
  · rintro ⟨i, hi, hd⟩
    obtain ⟨e1, e2⟩ := hr.2 i l[i] (by simp [hi])
    exact ⟨i, l[i], by simp [hi], by rw [e1, e2] at hd; exact hd⟩
theorem RgP.copy {h h' : zH} {q s : Nat} {l : List (Int × Int)} (hr : RgL h q l) (hp : RgP h' s l.length l.length) (hc : ∀ i, i < l.length → gI h' (s + 1) i = gI h (q + 1) i ∧ gI h' (s + 2) i = gI h (q + 2) i) : RgOK h' s l.length (inL l) := by
  refine ⟨l.length, hp, fun v _ _ => ?_⟩
  rw [inL_iff]
  constructor
  · rintro ⟨i, x, hi, hd⟩
    have hil := (List.getElem?_eq_some_iff.mp hi).1
    obtain ⟨e1, e2⟩ := hr.2 i x hi
    obtain ⟨d1, d2⟩ := hc i hil
    exact ⟨i, hil, by rw [d1, d2, e1, e2]; exact hd⟩
  · rintro ⟨i, hi, hd⟩
    obtain ⟨e1, e2⟩ := hr.2 i l[i] (by simp [hi])
    obtain ⟨d1, d2⟩ := hc i hi
    exact ⟨i, l[i], by simp [hi], by rw [d1, d2, e1, e2] at hd; exact hd⟩
theorem Fx.ok {h h' : zH} (f : Fx h h') {q N : Nat} {g : Int → Bool} (hq : q + 2 < gS h) (hr : RgOK h q N g) : RgOK h' q N g := by
  obtain ⟨n, ⟨⟨k0, k1, k2, r0, r1, hN⟩, hn, hnN, hb⟩, hf⟩ := hr
  have e0 := f.2 q (by omega)
  have e1 := f.2 (q + 1) (by omega)
  have e2 := f.2 (q + 2) (by omega)
  refine ⟨n, ⟨⟨by rw [e0.1]; exact k0, by rw [e1.1]; exact k1, by rw [e2.1]; exact k2, by rw [e0.2.2.2]; exact r0, by rw [e0.2.2.2]; exact r1, hN⟩, by rw [e0.2.1]; exact hn, hnN, by rw [e1.2.1, e2.2.1]; exact hb⟩, ?_⟩
  unfold RgF
  rw [e1.2.1, e2.2.1]
  exact hf
