/-! constructors: State, Puzzle -/
def Sa (h h' : zH) (a : Nat) : Prop := gK h' a = gK h a ∧ gI h' a = gI h a ∧ gR h' a = gR h a
theorem Sa.tr {h h1 h2 : zH} {a : Nat} (x : Sa h h1 a) (y : Sa h1 h2 a) : Sa h h2 a := ⟨y.1.trans x.1, y.2.1.trans x.2.1, y.2.2.trans x.2.2⟩
theorem Sa.n {h : zH} {kd : Nat × Nat} {a : Nat} (ha : a ≠ gS h) : Sa h (nC h kd) a := ⟨mK_n2 h kd ha, mI_n2 h kd ha, mR_n2 h kd ha⟩
theorem sR_ne' {h : zH} {a k q : Nat} {o : Option Nat} (hq : q ≠ a) : gR (sR h a k o) q = gR h q := by funext j; exact mR_s2 h o (Or.inl hq)
theorem Sa.r {h : zH} {a k q : Nat} {o : Option Nat} (hq : q ≠ a) : Sa h (sR h a k o) q := ⟨rfl, rfl, sR_ne' hq⟩
theorem Sa.i {h : zH} {a k q : Nat} {z : Int} (hq : q ≠ a) : Sa h (sI h a k z) q := ⟨rfl, sI_ne hq, rfl⟩
theorem Sa.a {h : zH} {a q : Nat} {g : Nat → Int} (hq : q ≠ a) : Sa h (sA h a g) q := ⟨rfl, mI_sAn h g hq, rfl⟩
/-- arrays b .. b + n - 1 have been made and put into slots of q -/
def Ar (h0 h : zH) (q b n : Nat) (sl : Nat → Nat) (kd : Nat → Nat × Nat) : Prop := gS h = b + n ∧ (∀ a, a < b → a ≠ q → Sa h0 h a) ∧ gK h q = gK h0 q ∧ gI h q = gI h0 q ∧ (∀ k, (∀ i, i < n → sl i ≠ k) → gR h q k = gR h0 q k) ∧ ∀ i, i < n → gK h (b + i) = kd i ∧ gR h q (sl i) = some (b + i) ∧ (∀ k, gI h (b + i) k = 0) ∧ ∀ k, gR h (b + i) k = none
theorem Ar.z {h : zH} {q b : Nat} {sl : Nat → Nat} {kd : Nat → Nat × Nat} (hb : gS h = b) : Ar h h q b 0 sl kd := ⟨hb, fun _ _ _ => ⟨rfl, rfl, rfl⟩, rfl, rfl, fun _ _ => rfl, fun i hi => absurd hi (Nat.not_lt_zero i)⟩
theorem Ar.st {h0 h : zH} {q b n : Nat} {sl : Nat → Nat} {kd : Nat → Nat × Nat} (hA : Ar h0 h q b n sl kd) (hq : q < b) (hsl : ∀ i, i < n → sl i ≠ sl n) (kd' : Nat × Nat) (k' : Nat) (e1 : kd n = kd') (e2 : sl n = k') : Ar h0 (sR (nC h kd') q k' (some (gS h))) q b (n + 1) sl kd := by
  subst e1 e2
  obtain ⟨a1, a2, a3, a4, a5, a6⟩ := hA
  have hqn : q ≠ gS h := by omega
  refine ⟨by rw [mS_sR, mS_nC, a1]; omega, fun a h1 h2 => ((a2 a h1 h2).tr (Sa.n (by omega))).tr (Sa.r h2), ?_, ?_, ?_, ?_⟩
  · rw [mK_sR, mK_n2 _ _ hqn]; exact a3
  · show gI (nC h (kd n)) q = _
    rw [mI_n2 _ _ hqn]; exact a4
  · intro k hk
    rw [mR_s2 _ _ (Or.inr (fun q => hk n (by omega) q.symm)), mR_n2 _ _ hqn]
    exact a5 k (fun i hi => hk i (by omega))
  · intro i hi
    by_cases e : i = n
    · subst e
      have e3 : b + i = gS h := a1.symm
      rw [e3]
      refine ⟨by rw [mK_sR, mK_n1], by rw [mR_s1], fun k => ?_, fun k => ?_⟩
      · show gI (nC h (kd i)) (gS h) k = 0
        rw [mI_nC, if_pos rfl]
      · rw [mR_s2 _ _ (Or.inl (by omega)), mR_nC, if_pos rfl]
    · obtain ⟨b1, b2, b3, b4⟩ := a6 i (by omega)
      have hne : b + i ≠ gS h := by omega
      refine ⟨by rw [mK_sR, mK_n2 _ _ hne]; exact b1, ?_, fun k => ?_, fun k => ?_⟩
      · rw [mR_s2 _ _ (Or.inr (hsl i (by omega))), mR_n2 _ _ hqn]; exact b2
      · show gI (nC h (kd n)) (b + i) k = 0
        rw [mI_n2 _ _ hne]; exact b3 k
      · rw [mR_s2 _ _ (Or.inl (by omega)), mR_n2 _ _ hne]; exact b4 k
def StE (h : zH) (q : Nat) : Prop := (gK h q).1 = 6 ∧ gK h (q + 1) = (9, 32) ∧ gK h (q + 2) = (9, 8) ∧ gK h (q + 3) = (9, 8) ∧ gK h (q + 4) = (12, 20) ∧ gR h q 0 = some (q + 1) ∧ gR h q 1 = some (q + 2) ∧ gR h q 2 = some (q + 3) ∧ gR h q 3 = some (q + 4) ∧ (∀ r, gR h (q + 4) r = none) ∧ (∀ p, gI h (q + 2) p = 0) ∧ (∀ p, p < 8 → gI h (q + 3) p = -1) ∧ gI h q 4 = 0 ∧ gI h q 5 = 0
theorem StE.sm {h h' : zH} {q : Nat} (hs : ∀ a, q ≤ a → a ≤ q + 4 → Sa h h' a) (hE : StE h q) : StE h' q := by
  unfold StE
  obtain ⟨k0, i0, r0⟩ := hs q (by omega) (by omega)
  obtain ⟨k1, i1, r1⟩ := hs (q + 1) (by omega) (by omega)
  obtain ⟨k2, i2, r2⟩ := hs (q + 2) (by omega) (by omega)
  obtain ⟨k3, i3, r3⟩ := hs (q + 3) (by omega) (by omega)
  obtain ⟨k4, i4, r4⟩ := hs (q + 4) (by omega) (by omega)
  rw [k0, k1, k2, k3, k4, r0, r4, i2, i3, i0]
  exact hE
def slS (i : Nat) : Nat := i
def kdS : Nat → Nat × Nat
  | 0 => (9, 32)
  | 1 => (9, 8)
  | 2 => (9, 8)
  | _ => (12, 20)
set_option maxRecDepth 4000 in
set_option maxHeartbeats 4000000 in
theorem sp_StInit (l : Launch) (G : zG) (h : zH) (q : Nat) (k0 : (gK h q).1 = 6) (hq : gS h = q + 1) (lv : Nat) (hlv : 2 ≤ lv) : z_Sp l G mtX6_init lv 4 68 [vR q] (h) (fun r h' => r = none ∧ gS h' = q + 5 ∧ (∀ a, a < q → Sa h h' a) ∧ StE h' q) := by
  refine x_enter [vR q, vJ] (by decide +kernel) (by omega) rfl (Nat.le_of_ble_eq_true rfl) ?_
  generalize hQ : (fun (r : Option zV) (h' : zH) => r = none ∧ gS h' = q + 5 ∧ (∀ a, a < q → Sa h h' a) ∧ StE h' q) = QQ
  have a0 : Ar h h q (q + 1) 0 slS kdS := Ar.z hq
  have fin : ∀ h4, Ar h h4 q (q + 1) 4 slS kdS → z_X l G mtX6_init lv 4 68 (QQ) (4) (68) (sI (sI h4 q 4 0) q 5 0) 47 [vR q, vJ] [] := by
    intro h4 hA
    obtain ⟨a1, a2, a3, a4, a5, a6⟩ := hA
    have c0 : (gK h4 q).1 = 6 := by rw [a3]; exact k0
    have s2 : gR h4 q 2 = some (q + 3) := (a6 2 (by omega)).2.1
    have k3 : gK h4 (q + 3) = (9, 8) := (a6 2 (by omega)).1
    have hlo : ∀ (d i : Nat) (g : Nat → Int), i + d = 8 → (∀ p, p < i → g p = -1) → z_X l G mtX6_init lv 4 68 (QQ) (4) (68) (sA (sI (sI h4 q 4 0) q 5 0) (q + 3) g) 49 [vR q, vI i] [] := by
      intro d
      induction d with
      | zero =>
        intro i g hi hg
        obtain rfl : i = 8 := by omega
        have hfin : QQ none (sA (sI (sI h4 q 4 0) q 5 0) (q + 3) g) := by
          rw [← hQ]
          refine ⟨rfl, by rw [mS_sA, mS_sI, mS_sI, a1], fun a ha => (a2 a (by omega) (by omega)).tr ((Sa.i (by omega)).tr ((Sa.i (by omega)).tr (Sa.a (by omega)))), ?_⟩
          refine ⟨c0, (a6 0 (by omega)).1, (a6 1 (by omega)).1, (a6 2 (by omega)).1, (a6 3 (by omega)).1, (a6 0 (by omega)).2.1, (a6 1 (by omega)).2.1, (a6 2 (by omega)).2.1, (a6 3 (by omega)).2.1, fun r => (a6 3 (by omega)).2.2.2 r, fun p => ?_, fun p hp => ?_, ?_, ?_⟩
          · rw [mA_s2 _ _ _ (by omega), mI_s2 _ _ (Or.inl (by omega)), mI_s2 _ _ (Or.inl (by omega))]
            exact (a6 1 (by omega)).2.2.1 p
          · rw [mA_s1]
            exact hg p hp
          · rw [mA_s2 _ _ _ (by omega), mI_s2 _ _ (Or.inr (by omega)), mI_s1]
          · rw [mA_s2 _ _ _ (by omega), mI_s1]
        clear hg a2 a5 a6 hQ
        refine z_run1 tsX6_init [] 20 ?_
        simp (maxSteps := 1000000) -implicitDefEqProofs +contextual (disch := omega) only [z_wp_t, z_wp_u, ↓pI_e, ↓pL_e, ↓pO_e, ↓pR_e, ↓p1_I, ↓p1_O, z_gl, z_st1, z_st2, z_nl_I, z_nl_O, z_nl_J, z_nl_L, if_true, if_false, ite_true, ite_false, true_and, and_true, List.mem_cons, List.not_mem_nil, or_false, false_or, or_self, List.length_cons, List.length_nil, InR_t, InL_t, z_ix_t, mI_s1, mI_s2, ↓brT, ↓brF, ↓brT', ↓brF', mL_sI, mR_sI, mK_sI, mS_sI, mI_sL, mL_s1, mL_s2, mR_sL, mK_sL, mS_sL, mI_sR, mL_sR, mR_s1, mR_s2, mK_sR, mS_sR, mA_s1, mA_s2, mL_sA, mR_sA, mK_sA, mS_sA, ix_n, ix_a, ix_m, ix_s, z_sw, z_stop, forall_const, true_implies, false_implies, imp_self, implies_true, not_true_eq_false, not_false_eq_true, ne_eq, eq_self, Option.some.injEq, reduceCtorEq, Nat.reduceAdd, Nat.reduceSub, Nat.reduceMul, Nat.reduceEqDiff, Nat.reduceLT, Nat.reduceLeDiff, Int.reduceAdd, Int.reduceMul, Int.reduceSub, Int.reduceNeg, Int.reduceToNat, Int.reduceLT, Int.reduceLE, Int.reduceEq, ↓reduceIte, List.reverse_cons, Option.toList, List.cons_append, List.nil_append, vI_inj, vL_inj, vO_inj, rI, rL, rO, rV, mI_sQ, mL_sQ, mK_sQ, mS_sQ, mQ_s1, mQ_s2, iL_and, iL_or, iL_xor, iL_shl, iL_ushr, iR_and, iR_or, iR_xor, iR_shl, iR_shr, iR_ushr, iR_cmp, yc0, tlX6_init, tkX6_init, o_aload, o_getR, o_goto, o_iast, o_ic, o_icge, o_iinc, o_iload, o_istore, o_oinit, o_putI, o_putR, o_vret]
        try simp +contextual (disch := omega) only [impF, impT, and_true, true_and, implies_true, not_false_eq_true, not_true_eq_false]
        exact hfin
      | succ d ih =>
        intro i g hi hg
        have hnx := ih (i + 1) (up g i (-1)) (by omega) (fun p hp => by
          by_cases e : p = i
          · rw [e, up_s]
          · rw [up_n _ _ e]; exact hg p (by omega))
        clear ih hg a2 a5 a6
        refine z_run1 tsX6_init [49] 20 ?_
        simp (maxSteps := 1000000) -implicitDefEqProofs +contextual (disch := omega) only [z_wp_t, z_wp_u, ↓pI_e, ↓pL_e, ↓pO_e, ↓pR_e, ↓p1_I, ↓p1_O, z_gl, z_st1, z_st2, z_nl_I, z_nl_O, z_nl_J, z_nl_L, if_true, if_false, ite_true, ite_false, true_and, and_true, List.mem_cons, List.not_mem_nil, or_false, false_or, or_self, List.length_cons, List.length_nil, InR_t, InL_t, z_ix_t, mI_s1, mI_s2, ↓brT, ↓brF, ↓brT', ↓brF', mL_sI, mR_sI, mK_sI, mS_sI, mI_sL, mL_s1, mL_s2, mR_sL, mK_sL, mS_sL, mI_sR, mL_sR, mR_s1, mR_s2, mK_sR, mS_sR, mA_s1, mA_s2, mL_sA, mR_sA, mK_sA, mS_sA, ix_n, ix_a, ix_m, ix_s, z_sw, z_stop, forall_const, true_implies, false_implies, imp_self, implies_true, not_true_eq_false, not_false_eq_true, ne_eq, eq_self, Option.some.injEq, reduceCtorEq, Nat.reduceAdd, Nat.reduceSub, Nat.reduceMul, Nat.reduceEqDiff, Nat.reduceLT, Nat.reduceLeDiff, Int.reduceAdd, Int.reduceMul, Int.reduceSub, Int.reduceNeg, Int.reduceToNat, Int.reduceLT, Int.reduceLE, Int.reduceEq, ↓reduceIte, List.reverse_cons, Option.toList, List.cons_append, List.nil_append, vI_inj, vL_inj, vO_inj, rI, rL, rO, rV, mI_sQ, mL_sQ, mK_sQ, mS_sQ, mQ_s1, mQ_s2, iL_and, iL_or, iL_xor, iL_shl, iL_ushr, iR_and, iR_or, iR_xor, iR_shl, iR_shr, iR_ushr, iR_cmp, yc0, tlX6_init, tkX6_init, o_aload, o_getR, o_goto, o_iast, o_ic, o_icge, o_iinc, o_iload, o_istore, o_oinit, o_putI, o_putR, o_vret, c0, s2, k3, sI_sA]
        try simp +contextual (disch := omega) only [impF, impT, and_true, true_and, implies_true, not_false_eq_true, not_true_eq_false]
        exact hnx
    have h0 := hlo 8 0 (gI (sI (sI h4 q 4 0) q 5 0) (q + 3)) (by omega) (fun p hp => by omega)
    rw [sA_self] at h0
    clear hlo a2 a5 a6
    refine z_run1 tsX6_init [49] 20 ?_
    simp (maxSteps := 1000000) -implicitDefEqProofs +contextual (disch := omega) only [z_wp_t, z_wp_u, ↓pI_e, ↓pL_e, ↓pO_e, ↓pR_e, ↓p1_I, ↓p1_O, z_gl, z_st1, z_st2, z_nl_I, z_nl_O, z_nl_J, z_nl_L, if_true, if_false, ite_true, ite_false, true_and, and_true, List.mem_cons, List.not_mem_nil, or_false, false_or, or_self, List.length_cons, List.length_nil, InR_t, InL_t, z_ix_t, mI_s1, mI_s2, ↓brT, ↓brF, ↓brT', ↓brF', mL_sI, mR_sI, mK_sI, mS_sI, mI_sL, mL_s1, mL_s2, mR_sL, mK_sL, mS_sL, mI_sR, mL_sR, mR_s1, mR_s2, mK_sR, mS_sR, mA_s1, mA_s2, mL_sA, mR_sA, mK_sA, mS_sA, ix_n, ix_a, ix_m, ix_s, z_sw, z_stop, forall_const, true_implies, false_implies, imp_self, implies_true, not_true_eq_false, not_false_eq_true, ne_eq, eq_self, Option.some.injEq, reduceCtorEq, Nat.reduceAdd, Nat.reduceSub, Nat.reduceMul, Nat.reduceEqDiff, Nat.reduceLT, Nat.reduceLeDiff, Int.reduceAdd, Int.reduceMul, Int.reduceSub, Int.reduceNeg, Int.reduceToNat, Int.reduceLT, Int.reduceLE, Int.reduceEq, ↓reduceIte, List.reverse_cons, Option.toList, List.cons_append, List.nil_append, vI_inj, vL_inj, vO_inj, rI, rL, rO, rV, mI_sQ, mL_sQ, mK_sQ, mS_sQ, mQ_s1, mQ_s2, iL_and, iL_or, iL_xor, iL_shl, iL_ushr, iR_and, iR_or, iR_xor, iR_shl, iR_shr, iR_ushr, iR_cmp, yc0, tlX6_init, tkX6_init, o_aload, o_getR, o_goto, o_iast, o_ic, o_icge, o_iinc, o_iload, o_istore, o_oinit, o_putI, o_putR, o_vret]
    try simp +contextual (disch := omega) only [impF, impT, and_true, true_and, implies_true, not_false_eq_true, not_true_eq_false]
    exact h0
  clear hQ
  refine z_run1 tsX6_init [] 20 ?_
  simp (maxSteps := 1000000) -implicitDefEqProofs +contextual (disch := omega) only [z_wp_t, z_wp_u, ↓pI_e, ↓pL_e, ↓pO_e, ↓pR_e, ↓p1_I, ↓p1_O, z_gl, z_st1, z_st2, z_nl_I, z_nl_O, z_nl_J, z_nl_L, if_true, if_false, ite_true, ite_false, true_and, and_true, List.mem_cons, List.not_mem_nil, or_false, false_or, or_self, List.length_cons, List.length_nil, InR_t, InL_t, z_ix_t, mI_s1, mI_s2, ↓brT, ↓brF, ↓brT', ↓brF', mL_sI, mR_sI, mK_sI, mS_sI, mI_sL, mL_s1, mL_s2, mR_sL, mK_sL, mS_sL, mI_sR, mL_sR, mR_s1, mR_s2, mK_sR, mS_sR, mA_s1, mA_s2, mL_sA, mR_sA, mK_sA, mS_sA, ix_n, ix_a, ix_m, ix_s, z_sw, z_stop, forall_const, true_implies, false_implies, imp_self, implies_true, not_true_eq_false, not_false_eq_true, ne_eq, eq_self, Option.some.injEq, reduceCtorEq, Nat.reduceAdd, Nat.reduceSub, Nat.reduceMul, Nat.reduceEqDiff, Nat.reduceLT, Nat.reduceLeDiff, Int.reduceAdd, Int.reduceMul, Int.reduceSub, Int.reduceNeg, Int.reduceToNat, Int.reduceLT, Int.reduceLE, Int.reduceEq, ↓reduceIte, List.reverse_cons, Option.toList, List.cons_append, List.nil_append, vI_inj, vL_inj, vO_inj, rI, rL, rO, rV, mI_sQ, mL_sQ, mK_sQ, mS_sQ, mQ_s1, mQ_s2, iL_and, iL_or, iL_xor, iL_shl, iL_ushr, iR_and, iR_or, iR_xor, iR_shl, iR_shr, iR_ushr, iR_cmp, yc0, tlX6_init, tkX6_init, o_aload, o_getR, o_goto, o_iast, o_ic, o_icge, o_iinc, o_iload, o_istore, o_oinit, o_putI, o_putR, o_vret]
  try simp +contextual (disch := omega) only [impF, impT, and_true, true_and, implies_true, not_false_eq_true, not_true_eq_false]
  refine x_newai 32 (by decide +kernel) ar_int (by omega) (by omega) (by omega) ?_
  have a1 := a0.st (by omega) (by decide) (9, 32) 0 rfl rfl
  have hne : q ≠ gS h := by omega
  refine z_run1 tsX6_init [] 30 ?_
  simp (maxSteps := 1000000) -implicitDefEqProofs +contextual (disch := omega) only [z_wp_t, z_wp_u, ↓pI_e, ↓pL_e, ↓pO_e, ↓pR_e, ↓p1_I, ↓p1_O, z_gl, z_st1, z_st2, z_nl_I, z_nl_O, z_nl_J, z_nl_L, if_true, if_false, ite_true, ite_false, true_and, and_true, List.mem_cons, List.not_mem_nil, or_false, false_or, or_self, List.length_cons, List.length_nil, InR_t, InL_t, z_ix_t, mI_s1, mI_s2, ↓brT, ↓brF, ↓brT', ↓brF', mL_sI, mR_sI, mK_sI, mS_sI, mI_sL, mL_s1, mL_s2, mR_sL, mK_sL, mS_sL, mI_sR, mL_sR, mR_s1, mR_s2, mK_sR, mS_sR, mA_s1, mA_s2, mL_sA, mR_sA, mK_sA, mS_sA, ix_n, ix_a, ix_m, ix_s, z_sw, z_stop, forall_const, true_implies, false_implies, imp_self, implies_true, not_true_eq_false, not_false_eq_true, ne_eq, eq_self, Option.some.injEq, reduceCtorEq, Nat.reduceAdd, Nat.reduceSub, Nat.reduceMul, Nat.reduceEqDiff, Nat.reduceLT, Nat.reduceLeDiff, Int.reduceAdd, Int.reduceMul, Int.reduceSub, Int.reduceNeg, Int.reduceToNat, Int.reduceLT, Int.reduceLE, Int.reduceEq, ↓reduceIte, List.reverse_cons, Option.toList, List.cons_append, List.nil_append, vI_inj, vL_inj, vO_inj, rI, rL, rO, rV, mI_sQ, mL_sQ, mK_sQ, mS_sQ, mQ_s1, mQ_s2, iL_and, iL_or, iL_xor, iL_shl, iL_ushr, iR_and, iR_or, iR_xor, iR_shl, iR_shr, iR_ushr, iR_cmp, yc0, tlX6_init, tkX6_init, o_aload, o_getR, o_goto, o_iast, o_ic, o_icge, o_iinc, o_iload, o_istore, o_oinit, o_putI, o_putR, o_vret, mK_n2, k0]
  try simp +contextual (disch := omega) only [impF, impT, and_true, true_and, implies_true, not_false_eq_true, not_true_eq_false]
  generalize sR (nC h (9, 32)) q 0 (some (gS h)) = h1 at *
  have hne : q ≠ gS h1 := by have := a1.1; omega
  have k1 : (gK h1 q).1 = 6 := by rw [a1.2.2.1]; exact k0
  refine x_newai 8 (by decide +kernel) ar_int (by omega) (by omega) (by omega) ?_
  have a2 := a1.st (by omega) (by decide) (9, 8) 1 rfl rfl
  refine z_run1 tsX6_init [] 30 ?_
  simp (maxSteps := 1000000) -implicitDefEqProofs +contextual (disch := omega) only [z_wp_t, z_wp_u, ↓pI_e, ↓pL_e, ↓pO_e, ↓pR_e, ↓p1_I, ↓p1_O, z_gl, z_st1, z_st2, z_nl_I, z_nl_O, z_nl_J, z_nl_L, if_true, if_false, ite_true, ite_false, true_and, and_true, List.mem_cons, List.not_mem_nil, or_false, false_or, or_self, List.length_cons, List.length_nil, InR_t, InL_t, z_ix_t, mI_s1, mI_s2, ↓brT, ↓brF, ↓brT', ↓brF', mL_sI, mR_sI, mK_sI, mS_sI, mI_sL, mL_s1, mL_s2, mR_sL, mK_sL, mS_sL, mI_sR, mL_sR, mR_s1, mR_s2, mK_sR, mS_sR, mA_s1, mA_s2, mL_sA, mR_sA, mK_sA, mS_sA, ix_n, ix_a, ix_m, ix_s, z_sw, z_stop, forall_const, true_implies, false_implies, imp_self, implies_true, not_true_eq_false, not_false_eq_true, ne_eq, eq_self, Option.some.injEq, reduceCtorEq, Nat.reduceAdd, Nat.reduceSub, Nat.reduceMul, Nat.reduceEqDiff, Nat.reduceLT, Nat.reduceLeDiff, Int.reduceAdd, Int.reduceMul, Int.reduceSub, Int.reduceNeg, Int.reduceToNat, Int.reduceLT, Int.reduceLE, Int.reduceEq, ↓reduceIte, List.reverse_cons, Option.toList, List.cons_append, List.nil_append, vI_inj, vL_inj, vO_inj, rI, rL, rO, rV, mI_sQ, mL_sQ, mK_sQ, mS_sQ, mQ_s1, mQ_s2, iL_and, iL_or, iL_xor, iL_shl, iL_ushr, iR_and, iR_or, iR_xor, iR_shl, iR_shr, iR_ushr, iR_cmp, yc0, tlX6_init, tkX6_init, o_aload, o_getR, o_goto, o_iast, o_ic, o_icge, o_iinc, o_iload, o_istore, o_oinit, o_putI, o_putR, o_vret, mK_n2, k1]
  try simp +contextual (disch := omega) only [impF, impT, and_true, true_and, implies_true, not_false_eq_true, not_true_eq_false]
  generalize sR (nC h1 (9, 8)) q 1 (some (gS h1)) = h2 at *
  have hne : q ≠ gS h2 := by have := a2.1; omega
  have k2 : (gK h2 q).1 = 6 := by rw [a2.2.2.1]; exact k0
  refine x_newai 8 (by decide +kernel) ar_int (by omega) (by omega) (by omega) ?_
  have a3 := a2.st (by omega) (by decide) (9, 8) 2 rfl rfl
  refine z_run1 tsX6_init [] 30 ?_
  simp (maxSteps := 1000000) -implicitDefEqProofs +contextual (disch := omega) only [z_wp_t, z_wp_u, ↓pI_e, ↓pL_e, ↓pO_e, ↓pR_e, ↓p1_I, ↓p1_O, z_gl, z_st1, z_st2, z_nl_I, z_nl_O, z_nl_J, z_nl_L, if_true, if_false, ite_true, ite_false, true_and, and_true, List.mem_cons, List.not_mem_nil, or_false, false_or, or_self, List.length_cons, List.length_nil, InR_t, InL_t, z_ix_t, mI_s1, mI_s2, ↓brT, ↓brF, ↓brT', ↓brF', mL_sI, mR_sI, mK_sI, mS_sI, mI_sL, mL_s1, mL_s2, mR_sL, mK_sL, mS_sL, mI_sR, mL_sR, mR_s1, mR_s2, mK_sR, mS_sR, mA_s1, mA_s2, mL_sA, mR_sA, mK_sA, mS_sA, ix_n, ix_a, ix_m, ix_s, z_sw, z_stop, forall_const, true_implies, false_implies, imp_self, implies_true, not_true_eq_false, not_false_eq_true, ne_eq, eq_self, Option.some.injEq, reduceCtorEq, Nat.reduceAdd, Nat.reduceSub, Nat.reduceMul, Nat.reduceEqDiff, Nat.reduceLT, Nat.reduceLeDiff, Int.reduceAdd, Int.reduceMul, Int.reduceSub, Int.reduceNeg, Int.reduceToNat, Int.reduceLT, Int.reduceLE, Int.reduceEq, ↓reduceIte, List.reverse_cons, Option.toList, List.cons_append, List.nil_append, vI_inj, vL_inj, vO_inj, rI, rL, rO, rV, mI_sQ, mL_sQ, mK_sQ, mS_sQ, mQ_s1, mQ_s2, iL_and, iL_or, iL_xor, iL_shl, iL_ushr, iR_and, iR_or, iR_xor, iR_shl, iR_shr, iR_ushr, iR_cmp, yc0, tlX6_init, tkX6_init, o_aload, o_getR, o_goto, o_iast, o_ic, o_icge, o_iinc, o_iload, o_istore, o_oinit, o_putI, o_putR, o_vret, mK_n2, k2]
  try simp +contextual (disch := omega) only [impF, impT, and_true, true_and, implies_true, not_false_eq_true, not_true_eq_false]
  generalize sR (nC h2 (9, 8)) q 2 (some (gS h2)) = h3 at *
  have hne : q ≠ gS h3 := by have := a3.1; omega
  have k3 : (gK h3 q).1 = 6 := by rw [a3.2.2.1]; exact k0
  refine x_newq 12 4 20 (by decide +kernel) (Or.inl ⟨rfl, rfl⟩) lw_X6_21 (by omega) (by omega) (by omega) ?_
  have a4 := a3.st (by omega) (by decide) (12, 20) 3 rfl rfl
  have fin := fin _ a4
  refine z_run1 tsX6_init [47] 30 ?_
  simp (maxSteps := 1000000) -implicitDefEqProofs +contextual (disch := omega) only [z_wp_t, z_wp_u, ↓pI_e, ↓pL_e, ↓pO_e, ↓pR_e, ↓p1_I, ↓p1_O, z_gl, z_st1, z_st2, z_nl_I, z_nl_O, z_nl_J, z_nl_L, if_true, if_false, ite_true, ite_false, true_and, and_true, List.mem_cons, List.not_mem_nil, or_false, false_or, or_self, List.length_cons, List.length_nil, InR_t, InL_t, z_ix_t, mI_s1, mI_s2, ↓brT, ↓brF, ↓brT', ↓brF', mL_sI, mR_sI, mK_sI, mS_sI, mI_sL, mL_s1, mL_s2, mR_sL, mK_sL, mS_sL, mI_sR, mL_sR, mR_s1, mR_s2, mK_sR, mS_sR, mA_s1, mA_s2, mL_sA, mR_sA, mK_sA, mS_sA, ix_n, ix_a, ix_m, ix_s, z_sw, z_stop, forall_const, true_implies, false_implies, imp_self, implies_true, not_true_eq_false, not_false_eq_true, ne_eq, eq_self, Option.some.injEq, reduceCtorEq, Nat.reduceAdd, Nat.reduceSub, Nat.reduceMul, Nat.reduceEqDiff, Nat.reduceLT, Nat.reduceLeDiff, Int.reduceAdd, Int.reduceMul, Int.reduceSub, Int.reduceNeg, Int.reduceToNat, Int.reduceLT, Int.reduceLE, Int.reduceEq, ↓reduceIte, List.reverse_cons, Option.toList, List.cons_append, List.nil_append, vI_inj, vL_inj, vO_inj, rI, rL, rO, rV, mI_sQ, mL_sQ, mK_sQ, mS_sQ, mQ_s1, mQ_s2, iL_and, iL_or, iL_xor, iL_shl, iL_ushr, iR_and, iR_or, iR_xor, iR_shl, iR_shr, iR_ushr, iR_cmp, yc0, tlX6_init, tkX6_init, o_aload, o_getR, o_goto, o_iast, o_ic, o_icge, o_iinc, o_iload, o_istore, o_oinit, o_putI, o_putR, o_vret, mK_n2, k3]
  try simp +contextual (disch := omega) only [impF, impT, and_true, true_and, implies_true, not_false_eq_true, not_true_eq_false]
  exact fin
def PuE (h : zH) (z : Nat) : Prop := ShP h z ∧ gI h z 10 = 0
theorem PuE.sm {h h' : zH} {z : Nat} (hs : ∀ a, z ≤ a → a ≤ z + 5 → Sa h h' a) (hE : PuE h z) : PuE h' z := by
  unfold PuE ShP
  obtain ⟨k0, i0, r0⟩ := hs z (by omega) (by omega)
  obtain ⟨k1, i1, r1⟩ := hs (z + 1) (by omega) (by omega)
  obtain ⟨k2, i2, r2⟩ := hs (z + 2) (by omega) (by omega)
  obtain ⟨k3, i3, r3⟩ := hs (z + 3) (by omega) (by omega)
  obtain ⟨k4, i4, r4⟩ := hs (z + 4) (by omega) (by omega)
  obtain ⟨k5, i5, r5⟩ := hs (z + 5) (by omega) (by omega)
  rw [k0, k1, k2, k3, k4, k5, r0, i0]
  exact hE
def kdP : Nat → Nat × Nat
  | 4 => (10, 40)
  | _ => (9, 20)
set_option maxRecDepth 4000 in
set_option maxHeartbeats 4000000 in
theorem sp_PzInit (l : Launch) (G : zG) (h : zH) (q : Nat) (k0 : (gK h q).1 = 2) (hq : gS h = q + 1) (hz : gI h q 10 = 0) (lv : Nat) (hlv : 2 ≤ lv) : z_Sp l G mtX2_init lv 5 120 [vR q] (h) (fun r h' => r = none ∧ gS h' = q + 6 ∧ (∀ a, a < q → Sa h h' a) ∧ PuE h' q) := by
  refine x_enter [vR q] (by decide +kernel) (by omega) rfl (Nat.le_of_ble_eq_true rfl) ?_
  generalize hQ : (fun (r : Option zV) (h' : zH) => r = none ∧ gS h' = q + 6 ∧ (∀ a, a < q → Sa h h' a) ∧ PuE h' q) = QQ
  have a0 : Ar h h q (q + 1) 0 slS kdP := Ar.z hq
  have fin : ∀ h5, Ar h h5 q (q + 1) 5 slS kdP → QQ none h5 := by
    intro h5 hA
    obtain ⟨a1, a2, a3, a4, a5, a6⟩ := hA
    rw [← hQ]
    refine ⟨rfl, a1, fun a ha => a2 a (by omega) (by omega), ⟨?_, (a6 0 (by omega)).1, (a6 1 (by omega)).1, (a6 2 (by omega)).1, (a6 3 (by omega)).1, (a6 4 (by omega)).1, (a6 0 (by omega)).2.1, (a6 1 (by omega)).2.1, (a6 2 (by omega)).2.1, (a6 3 (by omega)).2.1, (a6 4 (by omega)).2.1⟩, ?_⟩
    · rw [a3]; exact k0
    · rw [a4]; exact hz
  clear hQ
  refine z_run1 tsX2_init [] 20 ?_
  simp (maxSteps := 1000000) -implicitDefEqProofs +contextual (disch := omega) only [z_wp_t, z_wp_u, ↓pI_e, ↓pL_e, ↓pO_e, ↓pR_e, ↓p1_I, ↓p1_O, z_gl, z_st1, z_st2, z_nl_I, z_nl_O, z_nl_J, z_nl_L, if_true, if_false, ite_true, ite_false, true_and, and_true, List.mem_cons, List.not_mem_nil, or_false, false_or, or_self, List.length_cons, List.length_nil, InR_t, InL_t, z_ix_t, mI_s1, mI_s2, ↓brT, ↓brF, ↓brT', ↓brF', mL_sI, mR_sI, mK_sI, mS_sI, mI_sL, mL_s1, mL_s2, mR_sL, mK_sL, mS_sL, mI_sR, mL_sR, mR_s1, mR_s2, mK_sR, mS_sR, mA_s1, mA_s2, mL_sA, mR_sA, mK_sA, mS_sA, ix_n, ix_a, ix_m, ix_s, z_sw, z_stop, forall_const, true_implies, false_implies, imp_self, implies_true, not_true_eq_false, not_false_eq_true, ne_eq, eq_self, Option.some.injEq, reduceCtorEq, Nat.reduceAdd, Nat.reduceSub, Nat.reduceMul, Nat.reduceEqDiff, Nat.reduceLT, Nat.reduceLeDiff, Int.reduceAdd, Int.reduceMul, Int.reduceSub, Int.reduceNeg, Int.reduceToNat, Int.reduceLT, Int.reduceLE, Int.reduceEq, ↓reduceIte, List.reverse_cons, Option.toList, List.cons_append, List.nil_append, vI_inj, vL_inj, vO_inj, rI, rL, rO, rV, mI_sQ, mL_sQ, mK_sQ, mS_sQ, mQ_s1, mQ_s2, iL_and, iL_or, iL_xor, iL_shl, iL_ushr, iR_and, iR_or, iR_xor, iR_shl, iR_shr, iR_ushr, iR_cmp, yc0, tlX2_init, tkX2_init, o_aload, o_ic, o_oinit, o_putR, o_vret]
  try simp +contextual (disch := omega) only [impF, impT, and_true, true_and, implies_true, not_false_eq_true, not_true_eq_false]
  refine x_newai 20 (by decide +kernel) ar_int (by omega) (by omega) (by omega) ?_
  have a1 := a0.st (by omega) (by decide) (9, 20) 0 rfl rfl
  have hne : q ≠ gS h := by omega
  refine z_run1 tsX2_init [] 30 ?_
  simp (maxSteps := 1000000) -implicitDefEqProofs +contextual (disch := omega) only [z_wp_t, z_wp_u, ↓pI_e, ↓pL_e, ↓pO_e, ↓pR_e, ↓p1_I, ↓p1_O, z_gl, z_st1, z_st2, z_nl_I, z_nl_O, z_nl_J, z_nl_L, if_true, if_false, ite_true, ite_false, true_and, and_true, List.mem_cons, List.not_mem_nil, or_false, false_or, or_self, List.length_cons, List.length_nil, InR_t, InL_t, z_ix_t, mI_s1, mI_s2, ↓brT, ↓brF, ↓brT', ↓brF', mL_sI, mR_sI, mK_sI, mS_sI, mI_sL, mL_s1, mL_s2, mR_sL, mK_sL, mS_sL, mI_sR, mL_sR, mR_s1, mR_s2, mK_sR, mS_sR, mA_s1, mA_s2, mL_sA, mR_sA, mK_sA, mS_sA, ix_n, ix_a, ix_m, ix_s, z_sw, z_stop, forall_const, true_implies, false_implies, imp_self, implies_true, not_true_eq_false, not_false_eq_true, ne_eq, eq_self, Option.some.injEq, reduceCtorEq, Nat.reduceAdd, Nat.reduceSub, Nat.reduceMul, Nat.reduceEqDiff, Nat.reduceLT, Nat.reduceLeDiff, Int.reduceAdd, Int.reduceMul, Int.reduceSub, Int.reduceNeg, Int.reduceToNat, Int.reduceLT, Int.reduceLE, Int.reduceEq, ↓reduceIte, List.reverse_cons, Option.toList, List.cons_append, List.nil_append, vI_inj, vL_inj, vO_inj, rI, rL, rO, rV, mI_sQ, mL_sQ, mK_sQ, mS_sQ, mQ_s1, mQ_s2, iL_and, iL_or, iL_xor, iL_shl, iL_ushr, iR_and, iR_or, iR_xor, iR_shl, iR_shr, iR_ushr, iR_cmp, yc0, tlX2_init, tkX2_init, o_aload, o_ic, o_oinit, o_putR, o_vret, mK_n2, k0]
  try simp +contextual (disch := omega) only [impF, impT, and_true, true_and, implies_true, not_false_eq_true, not_true_eq_false]
  generalize sR (nC h (9, 20)) q 0 (some (gS h)) = h1 at *
  have hne : q ≠ gS h1 := by have := a1.1; omega
  have k1 : (gK h1 q).1 = 2 := by rw [a1.2.2.1]; exact k0
  refine x_newai 20 (by decide +kernel) ar_int (by omega) (by omega) (by omega) ?_
  have a2 := a1.st (by omega) (by decide) (9, 20) 1 rfl rfl
  refine z_run1 tsX2_init [] 30 ?_
  simp (maxSteps := 1000000) -implicitDefEqProofs +contextual (disch := omega) only [z_wp_t, z_wp_u, ↓pI_e, ↓pL_e, ↓pO_e, ↓pR_e, ↓p1_I, ↓p1_O, z_gl, z_st1, z_st2, z_nl_I, z_nl_O, z_nl_J, z_nl_L, if_true, if_false, ite_true, ite_false, true_and, and_true, List.mem_cons, List.not_mem_nil, or_false, false_or, or_self, List.length_cons, List.length_nil, InR_t, InL_t, z_ix_t, mI_s1, mI_s2, ↓brT, ↓brF, ↓brT', ↓brF', mL_sI, mR_sI, mK_sI, mS_sI, mI_sL, mL_s1, mL_s2, mR_sL, mK_sL, mS_sL, mI_sR, mL_sR, mR_s1, mR_s2, mK_sR, mS_sR, mA_s1, mA_s2, mL_sA, mR_sA, mK_sA, mS_sA, ix_n, ix_a, ix_m, ix_s, z_sw, z_stop, forall_const, true_implies, false_implies, imp_self, implies_true, not_true_eq_false, not_false_eq_true, ne_eq, eq_self, Option.some.injEq, reduceCtorEq, Nat.reduceAdd, Nat.reduceSub, Nat.reduceMul, Nat.reduceEqDiff, Nat.reduceLT, Nat.reduceLeDiff, Int.reduceAdd, Int.reduceMul, Int.reduceSub, Int.reduceNeg, Int.reduceToNat, Int.reduceLT, Int.reduceLE, Int.reduceEq, ↓reduceIte, List.reverse_cons, Option.toList, List.cons_append, List.nil_append, vI_inj, vL_inj, vO_inj, rI, rL, rO, rV, mI_sQ, mL_sQ, mK_sQ, mS_sQ, mQ_s1, mQ_s2, iL_and, iL_or, iL_xor, iL_shl, iL_ushr, iR_and, iR_or, iR_xor, iR_shl, iR_shr, iR_ushr, iR_cmp, yc0, tlX2_init, tkX2_init, o_aload, o_ic, o_oinit, o_putR, o_vret, mK_n2, k1]
  try simp +contextual (disch := omega) only [impF, impT, and_true, true_and, implies_true, not_false_eq_true, not_true_eq_false]
  generalize sR (nC h1 (9, 20)) q 1 (some (gS h1)) = h2 at *
  have hne : q ≠ gS h2 := by have := a2.1; omega
  have k2 : (gK h2 q).1 = 2 := by rw [a2.2.2.1]; exact k0
  refine x_newai 20 (by decide +kernel) ar_int (by omega) (by omega) (by omega) ?_
  have a3 := a2.st (by omega) (by decide) (9, 20) 2 rfl rfl
  refine z_run1 tsX2_init [] 30 ?_
  simp (maxSteps := 1000000) -implicitDefEqProofs +contextual (disch := omega) only [z_wp_t, z_wp_u, ↓pI_e, ↓pL_e, ↓pO_e, ↓pR_e, ↓p1_I, ↓p1_O, z_gl, z_st1, z_st2, z_nl_I, z_nl_O, z_nl_J, z_nl_L, if_true, if_false, ite_true, ite_false, true_and, and_true, List.mem_cons, List.not_mem_nil, or_false, false_or, or_self, List.length_cons, List.length_nil, InR_t, InL_t, z_ix_t, mI_s1, mI_s2, ↓brT, ↓brF, ↓brT', ↓brF', mL_sI, mR_sI, mK_sI, mS_sI, mI_sL, mL_s1, mL_s2, mR_sL, mK_sL, mS_sL, mI_sR, mL_sR, mR_s1, mR_s2, mK_sR, mS_sR, mA_s1, mA_s2, mL_sA, mR_sA, mK_sA, mS_sA, ix_n, ix_a, ix_m, ix_s, z_sw, z_stop, forall_const, true_implies, false_implies, imp_self, implies_true, not_true_eq_false, not_false_eq_true, ne_eq, eq_self, Option.some.injEq, reduceCtorEq, Nat.reduceAdd, Nat.reduceSub, Nat.reduceMul, Nat.reduceEqDiff, Nat.reduceLT, Nat.reduceLeDiff, Int.reduceAdd, Int.reduceMul, Int.reduceSub, Int.reduceNeg, Int.reduceToNat, Int.reduceLT, Int.reduceLE, Int.reduceEq, ↓reduceIte, List.reverse_cons, Option.toList, List.cons_append, List.nil_append, vI_inj, vL_inj, vO_inj, rI, rL, rO, rV, mI_sQ, mL_sQ, mK_sQ, mS_sQ, mQ_s1, mQ_s2, iL_and, iL_or, iL_xor, iL_shl, iL_ushr, iR_and, iR_or, iR_xor, iR_shl, iR_shr, iR_ushr, iR_cmp, yc0, tlX2_init, tkX2_init, o_aload, o_ic, o_oinit, o_putR, o_vret, mK_n2, k2]
  try simp +contextual (disch := omega) only [impF, impT, and_true, true_and, implies_true, not_false_eq_true, not_true_eq_false]
  generalize sR (nC h2 (9, 20)) q 2 (some (gS h2)) = h3 at *
  have hne : q ≠ gS h3 := by have := a3.1; omega
  have k3 : (gK h3 q).1 = 2 := by rw [a3.2.2.1]; exact k0
  refine x_newai 20 (by decide +kernel) ar_int (by omega) (by omega) (by omega) ?_
  have a4 := a3.st (by omega) (by decide) (9, 20) 3 rfl rfl
  refine z_run1 tsX2_init [] 30 ?_
  simp (maxSteps := 1000000) -implicitDefEqProofs +contextual (disch := omega) only [z_wp_t, z_wp_u, ↓pI_e, ↓pL_e, ↓pO_e, ↓pR_e, ↓p1_I, ↓p1_O, z_gl, z_st1, z_st2, z_nl_I, z_nl_O, z_nl_J, z_nl_L, if_true, if_false, ite_true, ite_false, true_and, and_true, List.mem_cons, List.not_mem_nil, or_false, false_or, or_self, List.length_cons, List.length_nil, InR_t, InL_t, z_ix_t, mI_s1, mI_s2, ↓brT, ↓brF, ↓brT', ↓brF', mL_sI, mR_sI, mK_sI, mS_sI, mI_sL, mL_s1, mL_s2, mR_sL, mK_sL, mS_sL, mI_sR, mL_sR, mR_s1, mR_s2, mK_sR, mS_sR, mA_s1, mA_s2, mL_sA, mR_sA, mK_sA, mS_sA, ix_n, ix_a, ix_m, ix_s, z_sw, z_stop, forall_const, true_implies, false_implies, imp_self, implies_true, not_true_eq_false, not_false_eq_true, ne_eq, eq_self, Option.some.injEq, reduceCtorEq, Nat.reduceAdd, Nat.reduceSub, Nat.reduceMul, Nat.reduceEqDiff, Nat.reduceLT, Nat.reduceLeDiff, Int.reduceAdd, Int.reduceMul, Int.reduceSub, Int.reduceNeg, Int.reduceToNat, Int.reduceLT, Int.reduceLE, Int.reduceEq, ↓reduceIte, List.reverse_cons, Option.toList, List.cons_append, List.nil_append, vI_inj, vL_inj, vO_inj, rI, rL, rO, rV, mI_sQ, mL_sQ, mK_sQ, mS_sQ, mQ_s1, mQ_s2, iL_and, iL_or, iL_xor, iL_shl, iL_ushr, iR_and, iR_or, iR_xor, iR_shl, iR_shr, iR_ushr, iR_cmp, yc0, tlX2_init, tkX2_init, o_aload, o_ic, o_oinit, o_putR, o_vret, mK_n2, k3]
  try simp +contextual (disch := omega) only [impF, impT, and_true, true_and, implies_true, not_false_eq_true, not_true_eq_false]
  generalize sR (nC h3 (9, 20)) q 3 (some (gS h3)) = h4 at *
  have hne : q ≠ gS h4 := by have := a4.1; omega
  have k4 : (gK h4 q).1 = 2 := by rw [a4.2.2.1]; exact k0
  refine x_newal 40 (by decide +kernel) ar_long (by omega) (by omega) (by omega) ?_
  have a5 := a4.st (by omega) (by decide) (10, 40) 4 rfl rfl
  have fin := fin _ a5
  refine z_run1 tsX2_init [] 30 ?_
  simp (maxSteps := 1000000) -implicitDefEqProofs +contextual (disch := omega) only [z_wp_t, z_wp_u, ↓pI_e, ↓pL_e, ↓pO_e, ↓pR_e, ↓p1_I, ↓p1_O, z_gl, z_st1, z_st2, z_nl_I, z_nl_O, z_nl_J, z_nl_L, if_true, if_false, ite_true, ite_false, true_and, and_true, List.mem_cons, List.not_mem_nil, or_false, false_or, or_self, List.length_cons, List.length_nil, InR_t, InL_t, z_ix_t, mI_s1, mI_s2, ↓brT, ↓brF, ↓brT', ↓brF', mL_sI, mR_sI, mK_sI, mS_sI, mI_sL, mL_s1, mL_s2, mR_sL, mK_sL, mS_sL, mI_sR, mL_sR, mR_s1, mR_s2, mK_sR, mS_sR, mA_s1, mA_s2, mL_sA, mR_sA, mK_sA, mS_sA, ix_n, ix_a, ix_m, ix_s, z_sw, z_stop, forall_const, true_implies, false_implies, imp_self, implies_true, not_true_eq_false, not_false_eq_true, ne_eq, eq_self, Option.some.injEq, reduceCtorEq, Nat.reduceAdd, Nat.reduceSub, Nat.reduceMul, Nat.reduceEqDiff, Nat.reduceLT, Nat.reduceLeDiff, Int.reduceAdd, Int.reduceMul, Int.reduceSub, Int.reduceNeg, Int.reduceToNat, Int.reduceLT, Int.reduceLE, Int.reduceEq, ↓reduceIte, List.reverse_cons, Option.toList, List.cons_append, List.nil_append, vI_inj, vL_inj, vO_inj, rI, rL, rO, rV, mI_sQ, mL_sQ, mK_sQ, mS_sQ, mQ_s1, mQ_s2, iL_and, iL_or, iL_xor, iL_shl, iL_ushr, iR_and, iR_or, iR_xor, iR_shl, iR_shr, iR_ushr, iR_cmp, yc0, tlX2_init, tkX2_init, o_aload, o_ic, o_oinit, o_putR, o_vret, mK_n2, k4]
  try simp +contextual (disch := omega) only [impF, impT, and_true, true_and, implies_true, not_false_eq_true, not_true_eq_false]
  exact fin
