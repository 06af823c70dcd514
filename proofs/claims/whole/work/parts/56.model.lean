/-! the reference: its object, what it holds -/
def ShM (h : zH) : Prop := (gK h 93).1 = 8 ∧ (gK h 94 = (9, 1410) ∧ gK h 95 = (9, 14100) ∧ gK h 96 = (9, 40) ∧ gK h 97 = (9, 68) ∧ gK h 98 = (9, 32) ∧ gK h 99 = (9, 20) ∧ gK h 100 = (9, 20) ∧ gK h 101 = (11, 20)) ∧ (gK h 102 = (9, 8) ∧ gK h 103 = (9, 8) ∧ gK h 104 = (9, 8) ∧ gK h 105 = (9, 8) ∧ gK h 106 = (9, 20) ∧ gK h 107 = (9, 20) ∧ gK h 108 = (9, 8)) ∧ (gR h 93 0 = some 94 ∧ gR h 93 1 = some 95 ∧ gR h 93 3 = some 96 ∧ gR h 93 5 = some 97 ∧ gR h 93 6 = some 98 ∧ gR h 93 9 = some 99 ∧ gR h 93 10 = some 100 ∧ gR h 93 11 = some 101) ∧ gR h 93 12 = some 102 ∧ gR h 93 13 = some 103 ∧ gR h 93 14 = some 104 ∧ gR h 93 15 = some 105 ∧ gR h 93 18 = some 106 ∧ gR h 93 19 = some 107 ∧ gR h 93 20 = some 108
def MRu (g : Nat → Int) (R : zRu) : Prop := g 0 = rF R ∧ g 1 = rC R ∧ g 2 = rT R ∧ g 3 = rB R ∧ (rC R ≠ -1 → ∀ v : Nat, v < 1000 → tb (g (4 + v / 32)) (v % 32) = rCi R (v : Int)) ∧ ∀ v : Nat, v < 1000 → tb (g (36 + v / 32)) (v % 32) = rTi R (v : Int)
def MA (g : Nat → Int) (A : zA) : Prop := (∀ p, p < 8 → g (32 + p) = (aN A p : Int)) ∧ (∀ p i, p < 8 → i < aN A p → g (4 * p + i) = aV A p i) ∧ g 40 = aF A ∧ (∀ p, p < 8 → g (41 + p) = aL A p) ∧ g 49 = (aC A : Int) ∧ ∀ r, r < aC A → MRu (fun k => g (50 + 68 * r + k)) (aR A r)
theorem MRu.c {g g' : Nat → Int} {R : zRu} (h : ∀ k, k < 68 → g' k = g k) (hm : MRu g R) : MRu g' R := by
  obtain ⟨a1, a2, a3, a4, a5, a6⟩ := hm
  exact ⟨by rw [h _ (by omega)]; exact a1, by rw [h _ (by omega)]; exact a2, by rw [h _ (by omega)]; exact a3, by rw [h _ (by omega)]; exact a4, fun q v hv => by rw [h _ (by omega)]; exact a5 q v hv, fun v hv => by rw [h _ (by omega)]; exact a6 v hv⟩
theorem MA.c {g g' : Nat → Int} {A : zA} (hA : AOK A) (h : ∀ k, k < 1410 → g' k = g k) (hm : MA g A) : MA g' A := by
  obtain ⟨a1, a2, a3, a4, a5, a6⟩ := hm
  have h20 := hA.2.2.2.2.1
  exact ⟨fun p hp => by rw [h _ (by omega)]; exact a1 p hp, fun p i hp hi => by rw [h _ (by have := hA.1 p hp; omega)]; exact a2 p i hp hi, by rw [h _ (by omega)]; exact a3, fun p hp => by rw [h _ (by omega)]; exact a4 p hp, by rw [h _ (by omega)]; exact a5, fun r hr => (a6 r hr).c (fun k hk => h _ (by omega))⟩
def MHi (h : zH) (hs : List zA) : Prop := gI h 93 2 = (hs.length : Int) ∧ hs.length ≤ 10 ∧ ∀ j A, hs[j]? = some A → MA (fun k => gI h 95 (1410 * j + k)) A ∧ AOK A
def MTx (h : zH) (t : Nat → Int) (n : Nat) : Prop := gI h 93 4 = (n : Int) ∧ n ≤ 40 ∧ (∀ i, i < n → gI h 96 i = t i) ∧ ∀ i, i < n → 0 ≤ t i ∧ t i ≤ 127
def MI (h : zH) (s : zS) : Prop := ShM h ∧ MA (gI h 94) (sW s) ∧ MHi h (sHs s) ∧ MTx h (sTx s) (sTn s) ∧ AOK (sW s)
def Mf : Nat → Prop := fun c => 93 ≤ c ∧ c ≤ 108
def MF (h h' : zH) : Prop := Fr Mf h h' ∧ gR h' = gR h
theorem MF.rf {h : zH} : MF h h := ⟨Fr.rf, rfl⟩
theorem MF.tr {h h1 h2 : zH} (a : MF h h1) (b : MF h1 h2) : MF h h2 := ⟨a.1.tr' b.1 (fun _ q => q) (fun _ q => q), b.2.trans a.2⟩
theorem MF.of {S : Nat → Prop} {h h' : zH} (f : Fr S h h') (hR : gR h' = gR h) (hs : ∀ c, S c → 93 ≤ c ∧ c ≤ 108) : MF h h' := ⟨f.mono hs, hR⟩
theorem ShM.of {h h' : zH} (hk : gK h' = gK h) (hR : gR h' = gR h) (hs : ShM h) : ShM h' := by
  unfold ShM
  rw [hk, hR]
  exact hs
def mQ (h : zH) (x : Int × zS) : Option zV → zH → Prop := fun r h' => r = some (vI x.1) ∧ MI h' x.2 ∧ MF h h'
set_option maxHeartbeats 4000000 in
theorem sm_in (l : Launch) (G : zG) (h : zH) (a b c : Int) (ha : InR a) (hb : InR b) (hc : InR c) (lv : Nat) (hlv : 1 ≤ lv) : z_Sp l G mtX8_in lv 0 0 [vI a, vI b, vI c] (h) (rI (if b ≤ a ∧ a ≤ c then 1 else 0) h) := by
  unfold InR at ha hb hc
  refine x_enter [vI a, vI b, vI c] (by decide +kernel) (by omega) rfl (Nat.le_of_ble_eq_true rfl) ?_
  by_cases h1 : b ≤ a
  · by_cases h2 : a ≤ c
    · rw [if_pos ⟨h1, h2⟩]
      refine z_run1 tsX8_in [] 20 ?_
      simp (maxSteps := 1000000) -implicitDefEqProofs +contextual (disch := omega) only [z_wp_t, z_wp_u, ↓pI_e, ↓pL_e, ↓pO_e, ↓pR_e, ↓p1_I, ↓p1_O, z_gl, z_st1, z_st2, z_nl_I, z_nl_O, z_nl_J, z_nl_L, if_true, if_false, ite_true, ite_false, true_and, and_true, List.mem_cons, List.not_mem_nil, or_false, false_or, or_self, List.length_cons, List.length_nil, InR_t, InL_t, z_ix_t, mI_s1, mI_s2, ↓brT, ↓brF, ↓brT', ↓brF', mL_sI, mR_sI, mK_sI, mS_sI, mI_sL, mL_s1, mL_s2, mR_sL, mK_sL, mS_sL, mI_sR, mL_sR, mR_s1, mR_s2, mK_sR, mS_sR, mA_s1, mA_s2, mL_sA, mR_sA, mK_sA, mS_sA, ix_n, ix_a, ix_m, ix_s, z_sw, z_stop, forall_const, true_implies, false_implies, imp_self, implies_true, not_true_eq_false, not_false_eq_true, ne_eq, eq_self, Option.some.injEq, reduceCtorEq, Nat.reduceAdd, Nat.reduceSub, Nat.reduceMul, Nat.reduceEqDiff, Nat.reduceLT, Nat.reduceLeDiff, Int.reduceAdd, Int.reduceMul, Int.reduceSub, Int.reduceNeg, Int.reduceToNat, Int.reduceLT, Int.reduceLE, Int.reduceEq, ↓reduceIte, List.reverse_cons, Option.toList, List.cons_append, List.nil_append, vI_inj, vL_inj, vO_inj, rI, rL, rO, rV, mI_sQ, mL_sQ, mK_sQ, mS_sQ, mQ_s1, mQ_s2, iL_and, iL_or, iL_xor, iL_shl, iL_ushr, iR_and, iR_or, iR_xor, iR_shl, iR_shr, iR_ushr, iR_cmp, yc0, tlX8_in, o_goto, o_ic, o_icgt, o_iclt, o_iload, o_zret]
      try simp +contextual (disch := omega) only [impF, impT, and_true, true_and, implies_true, not_false_eq_true, not_true_eq_false]
    · rw [if_neg (fun q => h2 q.2)]
      refine z_run1 tsX8_in [] 20 ?_
      simp (maxSteps := 1000000) -implicitDefEqProofs +contextual (disch := omega) only [z_wp_t, z_wp_u, ↓pI_e, ↓pL_e, ↓pO_e, ↓pR_e, ↓p1_I, ↓p1_O, z_gl, z_st1, z_st2, z_nl_I, z_nl_O, z_nl_J, z_nl_L, if_true, if_false, ite_true, ite_false, true_and, and_true, List.mem_cons, List.not_mem_nil, or_false, false_or, or_self, List.length_cons, List.length_nil, InR_t, InL_t, z_ix_t, mI_s1, mI_s2, ↓brT, ↓brF, ↓brT', ↓brF', mL_sI, mR_sI, mK_sI, mS_sI, mI_sL, mL_s1, mL_s2, mR_sL, mK_sL, mS_sL, mI_sR, mL_sR, mR_s1, mR_s2, mK_sR, mS_sR, mA_s1, mA_s2, mL_sA, mR_sA, mK_sA, mS_sA, ix_n, ix_a, ix_m, ix_s, z_sw, z_stop, forall_const, true_implies, false_implies, imp_self, implies_true, not_true_eq_false, not_false_eq_true, ne_eq, eq_self, Option.some.injEq, reduceCtorEq, Nat.reduceAdd, Nat.reduceSub, Nat.reduceMul, Nat.reduceEqDiff, Nat.reduceLT, Nat.reduceLeDiff, Int.reduceAdd, Int.reduceMul, Int.reduceSub, Int.reduceNeg, Int.reduceToNat, Int.reduceLT, Int.reduceLE, Int.reduceEq, ↓reduceIte, List.reverse_cons, Option.toList, List.cons_append, List.nil_append, vI_inj, vL_inj, vO_inj, rI, rL, rO, rV, mI_sQ, mL_sQ, mK_sQ, mS_sQ, mQ_s1, mQ_s2, iL_and, iL_or, iL_xor, iL_shl, iL_ushr, iR_and, iR_or, iR_xor, iR_shl, iR_shr, iR_ushr, iR_cmp, yc0, tlX8_in, o_goto, o_ic, o_icgt, o_iclt, o_iload, o_zret]
      try simp +contextual (disch := omega) only [impF, impT, and_true, true_and, implies_true, not_false_eq_true, not_true_eq_false]
  · rw [if_neg (fun q => h1 q.1)]
    refine z_run1 tsX8_in [] 20 ?_
    simp (maxSteps := 1000000) -implicitDefEqProofs +contextual (disch := omega) only [z_wp_t, z_wp_u, ↓pI_e, ↓pL_e, ↓pO_e, ↓pR_e, ↓p1_I, ↓p1_O, z_gl, z_st1, z_st2, z_nl_I, z_nl_O, z_nl_J, z_nl_L, if_true, if_false, ite_true, ite_false, true_and, and_true, List.mem_cons, List.not_mem_nil, or_false, false_or, or_self, List.length_cons, List.length_nil, InR_t, InL_t, z_ix_t, mI_s1, mI_s2, ↓brT, ↓brF, ↓brT', ↓brF', mL_sI, mR_sI, mK_sI, mS_sI, mI_sL, mL_s1, mL_s2, mR_sL, mK_sL, mS_sL, mI_sR, mL_sR, mR_s1, mR_s2, mK_sR, mS_sR, mA_s1, mA_s2, mL_sA, mR_sA, mK_sA, mS_sA, ix_n, ix_a, ix_m, ix_s, z_sw, z_stop, forall_const, true_implies, false_implies, imp_self, implies_true, not_true_eq_false, not_false_eq_true, ne_eq, eq_self, Option.some.injEq, reduceCtorEq, Nat.reduceAdd, Nat.reduceSub, Nat.reduceMul, Nat.reduceEqDiff, Nat.reduceLT, Nat.reduceLeDiff, Int.reduceAdd, Int.reduceMul, Int.reduceSub, Int.reduceNeg, Int.reduceToNat, Int.reduceLT, Int.reduceLE, Int.reduceEq, ↓reduceIte, List.reverse_cons, Option.toList, List.cons_append, List.nil_append, vI_inj, vL_inj, vO_inj, rI, rL, rO, rV, mI_sQ, mL_sQ, mK_sQ, mS_sQ, mQ_s1, mQ_s2, iL_and, iL_or, iL_xor, iL_shl, iL_ushr, iR_and, iR_or, iR_xor, iR_shl, iR_shr, iR_ushr, iR_cmp, yc0, tlX8_in, o_goto, o_ic, o_icgt, o_iclt, o_iload, o_zret]
    try simp +contextual (disch := omega) only [impF, impT, and_true, true_and, implies_true, not_false_eq_true, not_true_eq_false]
set_option maxHeartbeats 4000000 in
theorem sm_isPack (l : Launch) (G : zG) (h : zH) (p : Int) (hp : InR p) (lv : Nat) (hlv : 2 ≤ lv) : z_Sp l G mtX8_isPack lv 0 0 [vI p] (h) (rI (if okP p then 1 else 0) h) := by
  refine x_enter [vI p] (by decide +kernel) (by omega) rfl (Nat.le_of_ble_eq_true rfl) ?_
  refine z_run1 tsX8_isPack [] 20 ?_
  simp (maxSteps := 1000000) -implicitDefEqProofs +contextual (disch := omega) only [z_wp_t, z_wp_u, ↓pI_e, ↓pL_e, ↓pO_e, ↓pR_e, ↓p1_I, ↓p1_O, z_gl, z_st1, z_st2, z_nl_I, z_nl_O, z_nl_J, z_nl_L, if_true, if_false, ite_true, ite_false, true_and, and_true, List.mem_cons, List.not_mem_nil, or_false, false_or, or_self, List.length_cons, List.length_nil, InR_t, InL_t, z_ix_t, mI_s1, mI_s2, ↓brT, ↓brF, ↓brT', ↓brF', mL_sI, mR_sI, mK_sI, mS_sI, mI_sL, mL_s1, mL_s2, mR_sL, mK_sL, mS_sL, mI_sR, mL_sR, mR_s1, mR_s2, mK_sR, mS_sR, mA_s1, mA_s2, mL_sA, mR_sA, mK_sA, mS_sA, ix_n, ix_a, ix_m, ix_s, z_sw, z_stop, forall_const, true_implies, false_implies, imp_self, implies_true, not_true_eq_false, not_false_eq_true, ne_eq, eq_self, Option.some.injEq, reduceCtorEq, Nat.reduceAdd, Nat.reduceSub, Nat.reduceMul, Nat.reduceEqDiff, Nat.reduceLT, Nat.reduceLeDiff, Int.reduceAdd, Int.reduceMul, Int.reduceSub, Int.reduceNeg, Int.reduceToNat, Int.reduceLT, Int.reduceLE, Int.reduceEq, ↓reduceIte, List.reverse_cons, Option.toList, List.cons_append, List.nil_append, vI_inj, vL_inj, vO_inj, rI, rL, rO, rV, mI_sQ, mL_sQ, mK_sQ, mS_sQ, mQ_s1, mQ_s2, iL_and, iL_or, iL_xor, iL_shl, iL_ushr, iR_and, iR_or, iR_xor, iR_shl, iR_shr, iR_ushr, iR_cmp, yc0, tlX8_isPack, tkX8_isPack, o_ic, o_iload, o_zret]
  try simp +contextual (disch := omega) only [impF, impT, and_true, true_and, implies_true, not_false_eq_true, not_true_eq_false]
  refine x_callS (by decide +kernel) cv_X8_56 (sm_in l G h p 0 7 hp (by unfold InR; omega) (by unfold InR; omega) 1 (by omega)) (by omega) rfl (by omega) (by omega) rfl (Nat.le_of_ble_eq_true rfl) ?_
  rintro r h' ⟨rfl, hE⟩
  subst h'
  unfold okP
  by_cases q : 0 ≤ p ∧ p < 8
  · rw [if_pos (show 0 ≤ p ∧ p ≤ 7 by omega)]
    refine z_run1 tsX8_isPack [] 20 ?_
    simp (maxSteps := 1000000) -implicitDefEqProofs +contextual (disch := omega) only [z_wp_t, z_wp_u, ↓pI_e, ↓pL_e, ↓pO_e, ↓pR_e, ↓p1_I, ↓p1_O, z_gl, z_st1, z_st2, z_nl_I, z_nl_O, z_nl_J, z_nl_L, if_true, if_false, ite_true, ite_false, true_and, and_true, List.mem_cons, List.not_mem_nil, or_false, false_or, or_self, List.length_cons, List.length_nil, InR_t, InL_t, z_ix_t, mI_s1, mI_s2, ↓brT, ↓brF, ↓brT', ↓brF', mL_sI, mR_sI, mK_sI, mS_sI, mI_sL, mL_s1, mL_s2, mR_sL, mK_sL, mS_sL, mI_sR, mL_sR, mR_s1, mR_s2, mK_sR, mS_sR, mA_s1, mA_s2, mL_sA, mR_sA, mK_sA, mS_sA, ix_n, ix_a, ix_m, ix_s, z_sw, z_stop, forall_const, true_implies, false_implies, imp_self, implies_true, not_true_eq_false, not_false_eq_true, ne_eq, eq_self, Option.some.injEq, reduceCtorEq, Nat.reduceAdd, Nat.reduceSub, Nat.reduceMul, Nat.reduceEqDiff, Nat.reduceLT, Nat.reduceLeDiff, Int.reduceAdd, Int.reduceMul, Int.reduceSub, Int.reduceNeg, Int.reduceToNat, Int.reduceLT, Int.reduceLE, Int.reduceEq, ↓reduceIte, List.reverse_cons, Option.toList, List.cons_append, List.nil_append, vI_inj, vL_inj, vO_inj, rI, rL, rO, rV, mI_sQ, mL_sQ, mK_sQ, mS_sQ, mQ_s1, mQ_s2, iL_and, iL_or, iL_xor, iL_shl, iL_ushr, iR_and, iR_or, iR_xor, iR_shl, iR_shr, iR_ushr, iR_cmp, yc0, tlX8_isPack, tkX8_isPack, o_ic, o_iload, o_zret]
    try simp +contextual (disch := omega) only [impF, impT, and_true, true_and, implies_true, not_false_eq_true, not_true_eq_false]
    simp [q]
  · rw [if_neg (show ¬ (0 ≤ p ∧ p ≤ 7) by omega)]
    refine z_run1 tsX8_isPack [] 20 ?_
    simp (maxSteps := 1000000) -implicitDefEqProofs +contextual (disch := omega) only [z_wp_t, z_wp_u, ↓pI_e, ↓pL_e, ↓pO_e, ↓pR_e, ↓p1_I, ↓p1_O, z_gl, z_st1, z_st2, z_nl_I, z_nl_O, z_nl_J, z_nl_L, if_true, if_false, ite_true, ite_false, true_and, and_true, List.mem_cons, List.not_mem_nil, or_false, false_or, or_self, List.length_cons, List.length_nil, InR_t, InL_t, z_ix_t, mI_s1, mI_s2, ↓brT, ↓brF, ↓brT', ↓brF', mL_sI, mR_sI, mK_sI, mS_sI, mI_sL, mL_s1, mL_s2, mR_sL, mK_sL, mS_sL, mI_sR, mL_sR, mR_s1, mR_s2, mK_sR, mS_sR, mA_s1, mA_s2, mL_sA, mR_sA, mK_sA, mS_sA, ix_n, ix_a, ix_m, ix_s, z_sw, z_stop, forall_const, true_implies, false_implies, imp_self, implies_true, not_true_eq_false, not_false_eq_true, ne_eq, eq_self, Option.some.injEq, reduceCtorEq, Nat.reduceAdd, Nat.reduceSub, Nat.reduceMul, Nat.reduceEqDiff, Nat.reduceLT, Nat.reduceLeDiff, Int.reduceAdd, Int.reduceMul, Int.reduceSub, Int.reduceNeg, Int.reduceToNat, Int.reduceLT, Int.reduceLE, Int.reduceEq, ↓reduceIte, List.reverse_cons, Option.toList, List.cons_append, List.nil_append, vI_inj, vL_inj, vO_inj, rI, rL, rO, rV, mI_sQ, mL_sQ, mK_sQ, mS_sQ, mQ_s1, mQ_s2, iL_and, iL_or, iL_xor, iL_shl, iL_ushr, iR_and, iR_or, iR_xor, iR_shl, iR_shr, iR_ushr, iR_cmp, yc0, tlX8_isPack, tkX8_isPack, o_ic, o_iload, o_zret]
    try simp +contextual (disch := omega) only [impF, impT, and_true, true_and, implies_true, not_false_eq_true, not_true_eq_false]
    simp [q]
set_option maxHeartbeats 4000000 in
theorem sm_isVersion (l : Launch) (G : zG) (h : zH) (p : Int) (hp : InR p) (lv : Nat) (hlv : 2 ≤ lv) : z_Sp l G mtX8_isVersion lv 0 0 [vI p] (h) (rI (if okV p then 1 else 0) h) := by
  refine x_enter [vI p] (by decide +kernel) (by omega) rfl (Nat.le_of_ble_eq_true rfl) ?_
  refine z_run1 tsX8_isVersion [] 20 ?_
  simp (maxSteps := 1000000) -implicitDefEqProofs +contextual (disch := omega) only [z_wp_t, z_wp_u, ↓pI_e, ↓pL_e, ↓pO_e, ↓pR_e, ↓p1_I, ↓p1_O, z_gl, z_st1, z_st2, z_nl_I, z_nl_O, z_nl_J, z_nl_L, if_true, if_false, ite_true, ite_false, true_and, and_true, List.mem_cons, List.not_mem_nil, or_false, false_or, or_self, List.length_cons, List.length_nil, InR_t, InL_t, z_ix_t, mI_s1, mI_s2, ↓brT, ↓brF, ↓brT', ↓brF', mL_sI, mR_sI, mK_sI, mS_sI, mI_sL, mL_s1, mL_s2, mR_sL, mK_sL, mS_sL, mI_sR, mL_sR, mR_s1, mR_s2, mK_sR, mS_sR, mA_s1, mA_s2, mL_sA, mR_sA, mK_sA, mS_sA, ix_n, ix_a, ix_m, ix_s, z_sw, z_stop, forall_const, true_implies, false_implies, imp_self, implies_true, not_true_eq_false, not_false_eq_true, ne_eq, eq_self, Option.some.injEq, reduceCtorEq, Nat.reduceAdd, Nat.reduceSub, Nat.reduceMul, Nat.reduceEqDiff, Nat.reduceLT, Nat.reduceLeDiff, Int.reduceAdd, Int.reduceMul, Int.reduceSub, Int.reduceNeg, Int.reduceToNat, Int.reduceLT, Int.reduceLE, Int.reduceEq, ↓reduceIte, List.reverse_cons, Option.toList, List.cons_append, List.nil_append, vI_inj, vL_inj, vO_inj, rI, rL, rO, rV, mI_sQ, mL_sQ, mK_sQ, mS_sQ, mQ_s1, mQ_s2, iL_and, iL_or, iL_xor, iL_shl, iL_ushr, iR_and, iR_or, iR_xor, iR_shl, iR_shr, iR_ushr, iR_cmp, yc0, tlX8_isVersion, tkX8_isVersion, o_ic, o_iload, o_zret]
  try simp +contextual (disch := omega) only [impF, impT, and_true, true_and, implies_true, not_false_eq_true, not_true_eq_false]
  refine x_callS (by decide +kernel) cv_X8_56 (sm_in l G h p 0 999 hp (by unfold InR; omega) (by unfold InR; omega) 1 (by omega)) (by omega) rfl (by omega) (by omega) rfl (Nat.le_of_ble_eq_true rfl) ?_
  rintro r h' ⟨rfl, hE⟩
  subst h'
  unfold okV
  by_cases q : 0 ≤ p ∧ p ≤ 999
  · rw [if_pos q]
    refine z_run1 tsX8_isVersion [] 20 ?_
    simp (maxSteps := 1000000) -implicitDefEqProofs +contextual (disch := omega) only [z_wp_t, z_wp_u, ↓pI_e, ↓pL_e, ↓pO_e, ↓pR_e, ↓p1_I, ↓p1_O, z_gl, z_st1, z_st2, z_nl_I, z_nl_O, z_nl_J, z_nl_L, if_true, if_false, ite_true, ite_false, true_and, and_true, List.mem_cons, List.not_mem_nil, or_false, false_or, or_self, List.length_cons, List.length_nil, InR_t, InL_t, z_ix_t, mI_s1, mI_s2, ↓brT, ↓brF, ↓brT', ↓brF', mL_sI, mR_sI, mK_sI, mS_sI, mI_sL, mL_s1, mL_s2, mR_sL, mK_sL, mS_sL, mI_sR, mL_sR, mR_s1, mR_s2, mK_sR, mS_sR, mA_s1, mA_s2, mL_sA, mR_sA, mK_sA, mS_sA, ix_n, ix_a, ix_m, ix_s, z_sw, z_stop, forall_const, true_implies, false_implies, imp_self, implies_true, not_true_eq_false, not_false_eq_true, ne_eq, eq_self, Option.some.injEq, reduceCtorEq, Nat.reduceAdd, Nat.reduceSub, Nat.reduceMul, Nat.reduceEqDiff, Nat.reduceLT, Nat.reduceLeDiff, Int.reduceAdd, Int.reduceMul, Int.reduceSub, Int.reduceNeg, Int.reduceToNat, Int.reduceLT, Int.reduceLE, Int.reduceEq, ↓reduceIte, List.reverse_cons, Option.toList, List.cons_append, List.nil_append, vI_inj, vL_inj, vO_inj, rI, rL, rO, rV, mI_sQ, mL_sQ, mK_sQ, mS_sQ, mQ_s1, mQ_s2, iL_and, iL_or, iL_xor, iL_shl, iL_ushr, iR_and, iR_or, iR_xor, iR_shl, iR_shr, iR_ushr, iR_cmp, yc0, tlX8_isVersion, tkX8_isVersion, o_ic, o_iload, o_zret]
    try simp +contextual (disch := omega) only [impF, impT, and_true, true_and, implies_true, not_false_eq_true, not_true_eq_false]
    simp [q]
  · rw [if_neg q]
    refine z_run1 tsX8_isVersion [] 20 ?_
    simp (maxSteps := 1000000) -implicitDefEqProofs +contextual (disch := omega) only [z_wp_t, z_wp_u, ↓pI_e, ↓pL_e, ↓pO_e, ↓pR_e, ↓p1_I, ↓p1_O, z_gl, z_st1, z_st2, z_nl_I, z_nl_O, z_nl_J, z_nl_L, if_true, if_false, ite_true, ite_false, true_and, and_true, List.mem_cons, List.not_mem_nil, or_false, false_or, or_self, List.length_cons, List.length_nil, InR_t, InL_t, z_ix_t, mI_s1, mI_s2, ↓brT, ↓brF, ↓brT', ↓brF', mL_sI, mR_sI, mK_sI, mS_sI, mI_sL, mL_s1, mL_s2, mR_sL, mK_sL, mS_sL, mI_sR, mL_sR, mR_s1, mR_s2, mK_sR, mS_sR, mA_s1, mA_s2, mL_sA, mR_sA, mK_sA, mS_sA, ix_n, ix_a, ix_m, ix_s, z_sw, z_stop, forall_const, true_implies, false_implies, imp_self, implies_true, not_true_eq_false, not_false_eq_true, ne_eq, eq_self, Option.some.injEq, reduceCtorEq, Nat.reduceAdd, Nat.reduceSub, Nat.reduceMul, Nat.reduceEqDiff, Nat.reduceLT, Nat.reduceLeDiff, Int.reduceAdd, Int.reduceMul, Int.reduceSub, Int.reduceNeg, Int.reduceToNat, Int.reduceLT, Int.reduceLE, Int.reduceEq, ↓reduceIte, List.reverse_cons, Option.toList, List.cons_append, List.nil_append, vI_inj, vL_inj, vO_inj, rI, rL, rO, rV, mI_sQ, mL_sQ, mK_sQ, mS_sQ, mQ_s1, mQ_s2, iL_and, iL_or, iL_xor, iL_shl, iL_ushr, iR_and, iR_or, iR_xor, iR_shl, iR_shr, iR_ushr, iR_cmp, yc0, tlX8_isVersion, tkX8_isVersion, o_ic, o_iload, o_zret]
    try simp +contextual (disch := omega) only [impF, impT, and_true, true_and, implies_true, not_false_eq_true, not_true_eq_false]
    simp [q]
set_option maxRecDepth 4000 in
set_option maxHeartbeats 4000000 in
theorem sm_keeps (l : Launch) (G : zG) (h : zH) (A : zA) (hs : List zA) (hS : ShM h) (hm : MA (gI h 94) A) (hA : AOK A) (hH : MHi h hs) (lv : Nat) (hlv : 1 ≤ lv) : z_Sp l G mtX8_keeps lv 0 0 [vR 93] (h) (fun r h' => r = none ∧ Fr (fun c => c = 93 ∨ c = 95) h h' ∧ gR h' = gR h ∧ (∀ k, k ≠ 2 → gI h' 93 k = gI h 93 k) ∧ MHi h' (hPush hs A)) := by
  obtain ⟨k0, ⟨k94, k95, -⟩, -, ⟨r0, r1, -⟩, -⟩ := hS
  obtain ⟨hu, hl, hst⟩ := hH
  refine x_enter [vR 93, vJ] (by decide +kernel) (by omega) rfl (Nat.le_of_ble_eq_true rfl) ?_
  generalize hQ : (fun (r : Option zV) (h' : zH) => r = none ∧ Fr (fun c => c = 93 ∨ c = 95) h h' ∧ gR h' = gR h ∧ (∀ k, k ≠ 2 → gI h' 93 k = gI h 93 k) ∧ MHi h' (hPush hs A)) = QQ
  have main : ∀ (h1 : zH) (hs1 : List zA) (u : Nat), Fr (fun c => c = 93 ∨ c = 95) h h1 → gR h1 = gR h → (∀ k, k ≠ 2 → gI h1 93 k = gI h 93 k) → hs1.length = u → u < 10 → gI h1 93 2 = (u : Int) → (∀ j B, hs1[j]? = some B → MA (fun k => gI h1 95 (1410 * j + k)) B ∧ AOK B) → hPush hs A = hs1 ++ [A] → z_X l G mtX8_keeps lv 0 0 (QQ) 0 0 (h1) 50 [vR 93, vJ] [] := by
    intro h1 hs1 u f1 hR1 hk1 hlu hu10 hu1 hst1 hpush
    have q0 : (gK h1 93).1 = 8 := by rw [f1.K]; exact k0
    have q94 : gK h1 94 = (9, 1410) := by rw [f1.K]; exact k94
    have q95 : gK h1 95 = (9, 14100) := by rw [f1.K]; exact k95
    have s0 : gR h1 93 0 = some 94 := by rw [hR1]; exact r0
    have s1 : gR h1 93 1 = some 95 := by rw [hR1]; exact r1
    have e94 : gI h1 94 = gI h 94 := f1.I (by omega)
    have hlo : ∀ (d i : Nat) (g : Nat → Int), i + d = 1410 → (∀ j, g j = if 1410 * u ≤ j ∧ j < 1410 * u + i then gI h 94 (j - 1410 * u) else gI h1 95 j) → z_X l G mtX8_keeps lv 0 0 (QQ) 0 0 (sA h1 95 g) 52 [vR 93, vI i] [] := by
      intro d
      induction d with
      | zero =>
        intro i g hi hg
        obtain rfl : i = 1410 := by omega
        have eu : gI (sA h1 95 g) 93 2 = (u : Int) := by rw [mA_s2 _ _ _ (by omega)]; exact hu1
        refine z_run1 tsX8_keeps [] 30 ?_
        simp (maxSteps := 1000000) -implicitDefEqProofs +contextual (disch := omega) only [z_wp_t, z_wp_u, ↓pI_e, ↓pL_e, ↓pO_e, ↓pR_e, ↓p1_I, ↓p1_O, z_gl, z_st1, z_st2, z_nl_I, z_nl_O, z_nl_J, z_nl_L, if_true, if_false, ite_true, ite_false, true_and, and_true, List.mem_cons, List.not_mem_nil, or_false, false_or, or_self, List.length_cons, List.length_nil, InR_t, InL_t, z_ix_t, mI_s1, mI_s2, ↓brT, ↓brF, ↓brT', ↓brF', mL_sI, mR_sI, mK_sI, mS_sI, mI_sL, mL_s1, mL_s2, mR_sL, mK_sL, mS_sL, mI_sR, mL_sR, mR_s1, mR_s2, mK_sR, mS_sR, mA_s1, mA_s2, mL_sA, mR_sA, mK_sA, mS_sA, ix_n, ix_a, ix_m, ix_s, z_sw, z_stop, forall_const, true_implies, false_implies, imp_self, implies_true, not_true_eq_false, not_false_eq_true, ne_eq, eq_self, Option.some.injEq, reduceCtorEq, Nat.reduceAdd, Nat.reduceSub, Nat.reduceMul, Nat.reduceEqDiff, Nat.reduceLT, Nat.reduceLeDiff, Int.reduceAdd, Int.reduceMul, Int.reduceSub, Int.reduceNeg, Int.reduceToNat, Int.reduceLT, Int.reduceLE, Int.reduceEq, ↓reduceIte, List.reverse_cons, Option.toList, List.cons_append, List.nil_append, vI_inj, vL_inj, vO_inj, rI, rL, rO, rV, mI_sQ, mL_sQ, mK_sQ, mS_sQ, mQ_s1, mQ_s2, iL_and, iL_or, iL_xor, iL_shl, iL_ushr, iR_and, iR_or, iR_xor, iR_shl, iR_shr, iR_ushr, iR_cmp, yc0, tlX8_keeps, o_aload, o_dup, o_getI, o_getR, o_goto, o_iadd, o_iald, o_iast, o_ic, o_icge, o_icne, o_iinc, o_iload, o_imul, o_istore, o_isub, o_putI, o_vret, q0, hu1]
        try simp +contextual (disch := omega) only [impF, impT, and_true, true_and, implies_true, not_false_eq_true, not_true_eq_false]
        rw [← hQ]
        have f2 : Fr (fun c => c = 93 ∨ c = 95) h1 (sI (sA h1 95 g) 93 2 ((u : Int) + 1)) := (Fr.sA (fun c => c = 93 ∨ c = 95) _ _ _ (Or.inr rfl)).tr' (Fr.sI (fun c => c = 93 ∨ c = 95) _ _ _ _ (Or.inl rfl)) (fun _ q => q) (fun _ q => q)
        refine ⟨rfl, f1.tr' f2 (fun _ q => q) (fun _ q => q), hR1, fun k hk => ?_, ?_, ?_, fun j B hj => ?_⟩
        · rw [mI_s2 _ _ (Or.inr hk), mA_s2 _ _ _ (by omega)]; exact hk1 k hk
        · rw [mI_s1, hpush, List.length_append, hlu]; rfl
        · rw [hpush, List.length_append, hlu]; simp; omega
        · rw [hpush] at hj
          have e95 : ∀ x, gI (sI (sA h1 95 g) 93 2 ((u : Int) + 1)) 95 x = g x := fun x => by rw [mI_s2 _ _ (Or.inl (by omega)), mA_s1]
          by_cases hjl : j < hs1.length
          · rw [List.getElem?_append_left hjl] at hj
            obtain ⟨g1, g2⟩ := hst1 j B hj
            refine ⟨g1.c g2 (fun k hk => ?_), g2⟩
            rw [e95, hg, if_neg (by omega)]
          · rw [List.getElem?_append_right (by omega)] at hj
            have hz : j - hs1.length < 1 := (List.getElem?_eq_some_iff.mp hj).1
            rw [show j - hs1.length = 0 by omega] at hj
            cases hj
            obtain rfl : j = u := by omega
            refine ⟨hm.c hA (fun k hk => ?_), hA⟩
            rw [e95, hg, if_pos (by omega), Nat.add_sub_cancel_left]
      | succ d ih =>
        intro i g hi hg
        have hnx := ih (i + 1) (up g (1410 * u + i) (gI h 94 i)) (by omega) (fun j => by
          by_cases e : j = 1410 * u + i
          · rw [e, up_s, if_pos (by omega), Nat.add_sub_cancel_left]
          · rw [up_n _ _ e, hg]
            by_cases e2 : 1410 * u ≤ j ∧ j < 1410 * u + i
            · rw [if_pos e2, if_pos (by omega)]
            · rw [if_neg e2, if_neg (by omega)])
        have e94' : gI h1 94 i = gI h 94 i := by rw [e94]
        refine z_run1 tsX8_keeps [52] 40 ?_
        simp (maxSteps := 1000000) -implicitDefEqProofs +contextual (disch := omega) only [z_wp_t, z_wp_u, ↓pI_e, ↓pL_e, ↓pO_e, ↓pR_e, ↓p1_I, ↓p1_O, z_gl, z_st1, z_st2, z_nl_I, z_nl_O, z_nl_J, z_nl_L, if_true, if_false, ite_true, ite_false, true_and, and_true, List.mem_cons, List.not_mem_nil, or_false, false_or, or_self, List.length_cons, List.length_nil, InR_t, InL_t, z_ix_t, mI_s1, mI_s2, ↓brT, ↓brF, ↓brT', ↓brF', mL_sI, mR_sI, mK_sI, mS_sI, mI_sL, mL_s1, mL_s2, mR_sL, mK_sL, mS_sL, mI_sR, mL_sR, mR_s1, mR_s2, mK_sR, mS_sR, mA_s1, mA_s2, mL_sA, mR_sA, mK_sA, mS_sA, ix_n, ix_a, ix_m, ix_s, z_sw, z_stop, forall_const, true_implies, false_implies, imp_self, implies_true, not_true_eq_false, not_false_eq_true, ne_eq, eq_self, Option.some.injEq, reduceCtorEq, Nat.reduceAdd, Nat.reduceSub, Nat.reduceMul, Nat.reduceEqDiff, Nat.reduceLT, Nat.reduceLeDiff, Int.reduceAdd, Int.reduceMul, Int.reduceSub, Int.reduceNeg, Int.reduceToNat, Int.reduceLT, Int.reduceLE, Int.reduceEq, ↓reduceIte, List.reverse_cons, Option.toList, List.cons_append, List.nil_append, vI_inj, vL_inj, vO_inj, rI, rL, rO, rV, mI_sQ, mL_sQ, mK_sQ, mS_sQ, mQ_s1, mQ_s2, iL_and, iL_or, iL_xor, iL_shl, iL_ushr, iR_and, iR_or, iR_xor, iR_shl, iR_shr, iR_ushr, iR_cmp, yc0, tlX8_keeps, o_aload, o_dup, o_getI, o_getR, o_goto, o_iadd, o_iald, o_iast, o_ic, o_icge, o_icne, o_iinc, o_iload, o_imul, o_istore, o_isub, o_putI, o_vret, q0, q94, q95, s0, s1, hu1, e94', sI_sA]
        try simp +contextual (disch := omega) only [impF, impT, and_true, true_and, implies_true, not_false_eq_true, not_true_eq_false]
        exact hnx
    have h0 := hlo 1410 0 (gI h1 95) (by omega) (fun j => by rw [if_neg (by omega)])
    rw [sA_self] at h0
    refine z_run1 tsX8_keeps [52] 20 ?_
    simp (maxSteps := 1000000) -implicitDefEqProofs +contextual (disch := omega) only [z_wp_t, z_wp_u, ↓pI_e, ↓pL_e, ↓pO_e, ↓pR_e, ↓p1_I, ↓p1_O, z_gl, z_st1, z_st2, z_nl_I, z_nl_O, z_nl_J, z_nl_L, if_true, if_false, ite_true, ite_false, true_and, and_true, List.mem_cons, List.not_mem_nil, or_false, false_or, or_self, List.length_cons, List.length_nil, InR_t, InL_t, z_ix_t, mI_s1, mI_s2, ↓brT, ↓brF, ↓brT', ↓brF', mL_sI, mR_sI, mK_sI, mS_sI, mI_sL, mL_s1, mL_s2, mR_sL, mK_sL, mS_sL, mI_sR, mL_sR, mR_s1, mR_s2, mK_sR, mS_sR, mA_s1, mA_s2, mL_sA, mR_sA, mK_sA, mS_sA, ix_n, ix_a, ix_m, ix_s, z_sw, z_stop, forall_const, true_implies, false_implies, imp_self, implies_true, not_true_eq_false, not_false_eq_true, ne_eq, eq_self, Option.some.injEq, reduceCtorEq, Nat.reduceAdd, Nat.reduceSub, Nat.reduceMul, Nat.reduceEqDiff, Nat.reduceLT, Nat.reduceLeDiff, Int.reduceAdd, Int.reduceMul, Int.reduceSub, Int.reduceNeg, Int.reduceToNat, Int.reduceLT, Int.reduceLE, Int.reduceEq, ↓reduceIte, List.reverse_cons, Option.toList, List.cons_append, List.nil_append, vI_inj, vL_inj, vO_inj, rI, rL, rO, rV, mI_sQ, mL_sQ, mK_sQ, mS_sQ, mQ_s1, mQ_s2, iL_and, iL_or, iL_xor, iL_shl, iL_ushr, iR_and, iR_or, iR_xor, iR_shl, iR_shr, iR_ushr, iR_cmp, yc0, tlX8_keeps, o_aload, o_dup, o_getI, o_getR, o_goto, o_iadd, o_iald, o_iast, o_ic, o_icge, o_icne, o_iinc, o_iload, o_imul, o_istore, o_isub, o_putI, o_vret]
    try simp +contextual (disch := omega) only [impF, impT, and_true, true_and, implies_true, not_false_eq_true, not_true_eq_false]
    exact h0
  by_cases h10 : hs.length = 10
  · rw [h10] at hu
    have hlo : ∀ (d i : Nat) (g : Nat → Int), i + d = 12690 → (∀ j, g j = if j < i then gI h 95 (j + 1410) else gI h 95 j) → z_X l G mtX8_keeps lv 0 0 (QQ) 0 0 (sA h 95 g) 11 [vR 93, vI i] [] := by
      intro d
      induction d with
      | zero =>
        intro i g hi hg
        obtain rfl : i = 12690 := by omega
        have f2 : Fr (fun c => c = 93 ∨ c = 95) h (sI (sA h 95 g) 93 2 9) := (Fr.sA (fun c => c = 93 ∨ c = 95) _ _ _ (Or.inr rfl)).tr' (Fr.sI (fun c => c = 93 ∨ c = 95) _ _ _ _ (Or.inl rfl)) (fun _ q => q) (fun _ q => q)
        have hb := main (sI (sA h 95 g) 93 2 9) (hs.drop 1) 9 f2 rfl (fun k hk => by rw [mI_s2 _ _ (Or.inr hk), mA_s2 _ _ _ (by omega)]) (by rw [List.length_drop, h10]) (by omega) (mI_s1 _ _ _ _) (fun j B hj => by
          have hj9 : j < 9 := by
            have := (List.getElem?_eq_some_iff.mp hj).1
            rw [List.length_drop, h10] at this
            exact this
          rw [List.getElem?_drop] at hj
          obtain ⟨g1, g2⟩ := hst _ B hj
          refine ⟨g1.c g2 (fun k hk => ?_), g2⟩
          rw [mI_s2 _ _ (Or.inl (by omega)), mA_s1, hg, if_pos (by omega)]
          show gI h 95 (1410 * j + k + 1410) = gI h 95 (1410 * (1 + j) + k)
          congr 1
          omega) (by simp [hPush, h10])
        have hu' : gI h 93 2 = 10 := hu
        refine z_run1 tsX8_keeps [50] 30 ?_
        simp (maxSteps := 1000000) -implicitDefEqProofs +contextual (disch := omega) only [z_wp_t, z_wp_u, ↓pI_e, ↓pL_e, ↓pO_e, ↓pR_e, ↓p1_I, ↓p1_O, z_gl, z_st1, z_st2, z_nl_I, z_nl_O, z_nl_J, z_nl_L, if_true, if_false, ite_true, ite_false, true_and, and_true, List.mem_cons, List.not_mem_nil, or_false, false_or, or_self, List.length_cons, List.length_nil, InR_t, InL_t, z_ix_t, mI_s1, mI_s2, ↓brT, ↓brF, ↓brT', ↓brF', mL_sI, mR_sI, mK_sI, mS_sI, mI_sL, mL_s1, mL_s2, mR_sL, mK_sL, mS_sL, mI_sR, mL_sR, mR_s1, mR_s2, mK_sR, mS_sR, mA_s1, mA_s2, mL_sA, mR_sA, mK_sA, mS_sA, ix_n, ix_a, ix_m, ix_s, z_sw, z_stop, forall_const, true_implies, false_implies, imp_self, implies_true, not_true_eq_false, not_false_eq_true, ne_eq, eq_self, Option.some.injEq, reduceCtorEq, Nat.reduceAdd, Nat.reduceSub, Nat.reduceMul, Nat.reduceEqDiff, Nat.reduceLT, Nat.reduceLeDiff, Int.reduceAdd, Int.reduceMul, Int.reduceSub, Int.reduceNeg, Int.reduceToNat, Int.reduceLT, Int.reduceLE, Int.reduceEq, ↓reduceIte, List.reverse_cons, Option.toList, List.cons_append, List.nil_append, vI_inj, vL_inj, vO_inj, rI, rL, rO, rV, mI_sQ, mL_sQ, mK_sQ, mS_sQ, mQ_s1, mQ_s2, iL_and, iL_or, iL_xor, iL_shl, iL_ushr, iR_and, iR_or, iR_xor, iR_shl, iR_shr, iR_ushr, iR_cmp, yc0, tlX8_keeps, o_aload, o_dup, o_getI, o_getR, o_goto, o_iadd, o_iald, o_iast, o_ic, o_icge, o_icne, o_iinc, o_iload, o_imul, o_istore, o_isub, o_putI, o_vret, k0, hu']
        try simp +contextual (disch := omega) only [impF, impT, and_true, true_and, implies_true, not_false_eq_true, not_true_eq_false]
        refine x_wk [vR 93, vJ] (by simp [z_wk]) ?_
        exact hb
      | succ d ih =>
        intro i g hi hg
        have hnx := ih (i + 1) (up g i (gI h 95 (i + 1410))) (by omega) (fun j => by
          by_cases e : j = i
          · rw [e, up_s, if_pos (by omega)]
          · rw [up_n _ _ e, hg]
            by_cases e2 : j < i
            · rw [if_pos e2, if_pos (by omega)]
            · rw [if_neg e2, if_neg (by omega)])
        have eg : g (i + 1410) = gI h 95 (i + 1410) := by rw [hg, if_neg (by omega)]
        refine z_run1 tsX8_keeps [11] 40 ?_
        simp (maxSteps := 1000000) -implicitDefEqProofs +contextual (disch := omega) only [z_wp_t, z_wp_u, ↓pI_e, ↓pL_e, ↓pO_e, ↓pR_e, ↓p1_I, ↓p1_O, z_gl, z_st1, z_st2, z_nl_I, z_nl_O, z_nl_J, z_nl_L, if_true, if_false, ite_true, ite_false, true_and, and_true, List.mem_cons, List.not_mem_nil, or_false, false_or, or_self, List.length_cons, List.length_nil, InR_t, InL_t, z_ix_t, mI_s1, mI_s2, ↓brT, ↓brF, ↓brT', ↓brF', mL_sI, mR_sI, mK_sI, mS_sI, mI_sL, mL_s1, mL_s2, mR_sL, mK_sL, mS_sL, mI_sR, mL_sR, mR_s1, mR_s2, mK_sR, mS_sR, mA_s1, mA_s2, mL_sA, mR_sA, mK_sA, mS_sA, ix_n, ix_a, ix_m, ix_s, z_sw, z_stop, forall_const, true_implies, false_implies, imp_self, implies_true, not_true_eq_false, not_false_eq_true, ne_eq, eq_self, Option.some.injEq, reduceCtorEq, Nat.reduceAdd, Nat.reduceSub, Nat.reduceMul, Nat.reduceEqDiff, Nat.reduceLT, Nat.reduceLeDiff, Int.reduceAdd, Int.reduceMul, Int.reduceSub, Int.reduceNeg, Int.reduceToNat, Int.reduceLT, Int.reduceLE, Int.reduceEq, ↓reduceIte, List.reverse_cons, Option.toList, List.cons_append, List.nil_append, vI_inj, vL_inj, vO_inj, rI, rL, rO, rV, mI_sQ, mL_sQ, mK_sQ, mS_sQ, mQ_s1, mQ_s2, iL_and, iL_or, iL_xor, iL_shl, iL_ushr, iR_and, iR_or, iR_xor, iR_shl, iR_shr, iR_ushr, iR_cmp, yc0, tlX8_keeps, o_aload, o_dup, o_getI, o_getR, o_goto, o_iadd, o_iald, o_iast, o_ic, o_icge, o_icne, o_iinc, o_iload, o_imul, o_istore, o_isub, o_putI, o_vret, k0, k95, r1, eg, sI_sA]
        try simp +contextual (disch := omega) only [impF, impT, and_true, true_and, implies_true, not_false_eq_true, not_true_eq_false]
        exact hnx
    have h0 := hlo 12690 0 (gI h 95) (by omega) (fun j => by rw [if_neg (by omega)])
    rw [sA_self] at h0
    have hu' : gI h 93 2 = 10 := hu
    refine z_run1 tsX8_keeps [11] 20 ?_
    simp (maxSteps := 1000000) -implicitDefEqProofs +contextual (disch := omega) only [z_wp_t, z_wp_u, ↓pI_e, ↓pL_e, ↓pO_e, ↓pR_e, ↓p1_I, ↓p1_O, z_gl, z_st1, z_st2, z_nl_I, z_nl_O, z_nl_J, z_nl_L, if_true, if_false, ite_true, ite_false, true_and, and_true, List.mem_cons, List.not_mem_nil, or_false, false_or, or_self, List.length_cons, List.length_nil, InR_t, InL_t, z_ix_t, mI_s1, mI_s2, ↓brT, ↓brF, ↓brT', ↓brF', mL_sI, mR_sI, mK_sI, mS_sI, mI_sL, mL_s1, mL_s2, mR_sL, mK_sL, mS_sL, mI_sR, mL_sR, mR_s1, mR_s2, mK_sR, mS_sR, mA_s1, mA_s2, mL_sA, mR_sA, mK_sA, mS_sA, ix_n, ix_a, ix_m, ix_s, z_sw, z_stop, forall_const, true_implies, false_implies, imp_self, implies_true, not_true_eq_false, not_false_eq_true, ne_eq, eq_self, Option.some.injEq, reduceCtorEq, Nat.reduceAdd, Nat.reduceSub, Nat.reduceMul, Nat.reduceEqDiff, Nat.reduceLT, Nat.reduceLeDiff, Int.reduceAdd, Int.reduceMul, Int.reduceSub, Int.reduceNeg, Int.reduceToNat, Int.reduceLT, Int.reduceLE, Int.reduceEq, ↓reduceIte, List.reverse_cons, Option.toList, List.cons_append, List.nil_append, vI_inj, vL_inj, vO_inj, rI, rL, rO, rV, mI_sQ, mL_sQ, mK_sQ, mS_sQ, mQ_s1, mQ_s2, iL_and, iL_or, iL_xor, iL_shl, iL_ushr, iR_and, iR_or, iR_xor, iR_shl, iR_shr, iR_ushr, iR_cmp, yc0, tlX8_keeps, o_aload, o_dup, o_getI, o_getR, o_goto, o_iadd, o_iald, o_iast, o_ic, o_icge, o_icne, o_iinc, o_iload, o_imul, o_istore, o_isub, o_putI, o_vret, k0, hu']
    try simp +contextual (disch := omega) only [impF, impT, and_true, true_and, implies_true, not_false_eq_true, not_true_eq_false]
    exact h0
  · have hb := main h hs hs.length Fr.rf rfl (fun _ _ => rfl) rfl (by omega) hu hst (by simp [hPush, h10])
    refine z_run1 tsX8_keeps [50] 20 ?_
    simp (maxSteps := 1000000) -implicitDefEqProofs +contextual (disch := omega) only [z_wp_t, z_wp_u, ↓pI_e, ↓pL_e, ↓pO_e, ↓pR_e, ↓p1_I, ↓p1_O, z_gl, z_st1, z_st2, z_nl_I, z_nl_O, z_nl_J, z_nl_L, if_true, if_false, ite_true, ite_false, true_and, and_true, List.mem_cons, List.not_mem_nil, or_false, false_or, or_self, List.length_cons, List.length_nil, InR_t, InL_t, z_ix_t, mI_s1, mI_s2, ↓brT, ↓brF, ↓brT', ↓brF', mL_sI, mR_sI, mK_sI, mS_sI, mI_sL, mL_s1, mL_s2, mR_sL, mK_sL, mS_sL, mI_sR, mL_sR, mR_s1, mR_s2, mK_sR, mS_sR, mA_s1, mA_s2, mL_sA, mR_sA, mK_sA, mS_sA, ix_n, ix_a, ix_m, ix_s, z_sw, z_stop, forall_const, true_implies, false_implies, imp_self, implies_true, not_true_eq_false, not_false_eq_true, ne_eq, eq_self, Option.some.injEq, reduceCtorEq, Nat.reduceAdd, Nat.reduceSub, Nat.reduceMul, Nat.reduceEqDiff, Nat.reduceLT, Nat.reduceLeDiff, Int.reduceAdd, Int.reduceMul, Int.reduceSub, Int.reduceNeg, Int.reduceToNat, Int.reduceLT, Int.reduceLE, Int.reduceEq, ↓reduceIte, List.reverse_cons, Option.toList, List.cons_append, List.nil_append, vI_inj, vL_inj, vO_inj, rI, rL, rO, rV, mI_sQ, mL_sQ, mK_sQ, mS_sQ, mQ_s1, mQ_s2, iL_and, iL_or, iL_xor, iL_shl, iL_ushr, iR_and, iR_or, iR_xor, iR_shl, iR_shr, iR_ushr, iR_cmp, yc0, tlX8_keeps, o_aload, o_dup, o_getI, o_getR, o_goto, o_iadd, o_iald, o_iast, o_ic, o_icge, o_icne, o_iinc, o_iload, o_imul, o_istore, o_isub, o_putI, o_vret, k0, hu]
    try simp +contextual (disch := omega) only [impF, impT, and_true, true_and, implies_true, not_false_eq_true, not_true_eq_false]
    exact hb
set_option maxHeartbeats 4000000 in
theorem sm_indexOf (l : Launch) (G : zG) (h : zH) (p : Nat) (v : Int) (A : zA) (hS : ShM h) (hm : MA (gI h 94) A) (hA : AOK A) (hp : p < 8) (hvr : InR v) (lv : Nat) (hlv : 1 ≤ lv) : z_Sp l G mtX8_indexOf lv 0 0 [vR 93, vI p, vI v] (h) (rI (fIx (aV A p) v (aN A p) 0) h) := by
  obtain ⟨k0, ⟨k94, -⟩, -, ⟨r0, -⟩, -⟩ := hS
  have hb := hA.1 p hp
  have hn := hm.1 p hp
  unfold InR at hvr
  refine x_enter [vR 93, vI p, vI v, vJ] (by decide +kernel) (by omega) rfl (Nat.le_of_ble_eq_true rfl) ?_
  refine z_run1 tsX8_indexOf [2] 10 ?_
  simp (maxSteps := 1000000) -implicitDefEqProofs +contextual (disch := omega) only [z_wp_t, z_wp_u, ↓pI_e, ↓pL_e, ↓pO_e, ↓pR_e, ↓p1_I, ↓p1_O, z_gl, z_st1, z_st2, z_nl_I, z_nl_O, z_nl_J, z_nl_L, if_true, if_false, ite_true, ite_false, true_and, and_true, List.mem_cons, List.not_mem_nil, or_false, false_or, or_self, List.length_cons, List.length_nil, InR_t, InL_t, z_ix_t, mI_s1, mI_s2, ↓brT, ↓brF, ↓brT', ↓brF', mL_sI, mR_sI, mK_sI, mS_sI, mI_sL, mL_s1, mL_s2, mR_sL, mK_sL, mS_sL, mI_sR, mL_sR, mR_s1, mR_s2, mK_sR, mS_sR, mA_s1, mA_s2, mL_sA, mR_sA, mK_sA, mS_sA, ix_n, ix_a, ix_m, ix_s, z_sw, z_stop, forall_const, true_implies, false_implies, imp_self, implies_true, not_true_eq_false, not_false_eq_true, ne_eq, eq_self, Option.some.injEq, reduceCtorEq, Nat.reduceAdd, Nat.reduceSub, Nat.reduceMul, Nat.reduceEqDiff, Nat.reduceLT, Nat.reduceLeDiff, Int.reduceAdd, Int.reduceMul, Int.reduceSub, Int.reduceNeg, Int.reduceToNat, Int.reduceLT, Int.reduceLE, Int.reduceEq, ↓reduceIte, List.reverse_cons, Option.toList, List.cons_append, List.nil_append, vI_inj, vL_inj, vO_inj, rI, rL, rO, rV, mI_sQ, mL_sQ, mK_sQ, mS_sQ, mQ_s1, mQ_s2, iL_and, iL_or, iL_xor, iL_shl, iL_ushr, iR_and, iR_or, iR_xor, iR_shl, iR_shr, iR_ushr, iR_cmp, yc0, tlX8_indexOf, o_aload, o_getR, o_goto, o_iadd, o_iald, o_ic, o_icge, o_icne, o_iinc, o_iload, o_imul, o_iret, o_istore]
  try simp +contextual (disch := omega) only [impF, impT, and_true, true_and, implies_true, not_false_eq_true, not_true_eq_false]
  have hl : ∀ d i : Nat, i + d = aN A p → fIx (aV A p) v (aN A p) 0 = fIx (aV A p) v d i → z_X l G mtX8_indexOf lv 0 0 (rI (fIx (aV A p) v (aN A p) 0) h) 0 0 (h) 2 [vR 93, vI p, vI v, vI i] [] := by
    intro d
    induction d with
    | zero =>
      intro i h1 h2
      refine z_run1 tsX8_indexOf [2] 30 ?_
      simp (maxSteps := 1000000) -implicitDefEqProofs +contextual (disch := omega) only [z_wp_t, z_wp_u, ↓pI_e, ↓pL_e, ↓pO_e, ↓pR_e, ↓p1_I, ↓p1_O, z_gl, z_st1, z_st2, z_nl_I, z_nl_O, z_nl_J, z_nl_L, if_true, if_false, ite_true, ite_false, true_and, and_true, List.mem_cons, List.not_mem_nil, or_false, false_or, or_self, List.length_cons, List.length_nil, InR_t, InL_t, z_ix_t, mI_s1, mI_s2, ↓brT, ↓brF, ↓brT', ↓brF', mL_sI, mR_sI, mK_sI, mS_sI, mI_sL, mL_s1, mL_s2, mR_sL, mK_sL, mS_sL, mI_sR, mL_sR, mR_s1, mR_s2, mK_sR, mS_sR, mA_s1, mA_s2, mL_sA, mR_sA, mK_sA, mS_sA, ix_n, ix_a, ix_m, ix_s, z_sw, z_stop, forall_const, true_implies, false_implies, imp_self, implies_true, not_true_eq_false, not_false_eq_true, ne_eq, eq_self, Option.some.injEq, reduceCtorEq, Nat.reduceAdd, Nat.reduceSub, Nat.reduceMul, Nat.reduceEqDiff, Nat.reduceLT, Nat.reduceLeDiff, Int.reduceAdd, Int.reduceMul, Int.reduceSub, Int.reduceNeg, Int.reduceToNat, Int.reduceLT, Int.reduceLE, Int.reduceEq, ↓reduceIte, List.reverse_cons, Option.toList, List.cons_append, List.nil_append, vI_inj, vL_inj, vO_inj, rI, rL, rO, rV, mI_sQ, mL_sQ, mK_sQ, mS_sQ, mQ_s1, mQ_s2, iL_and, iL_or, iL_xor, iL_shl, iL_ushr, iR_and, iR_or, iR_xor, iR_shl, iR_shr, iR_ushr, iR_cmp, yc0, tlX8_indexOf, o_aload, o_getR, o_goto, o_iadd, o_iald, o_ic, o_icge, o_icne, o_iinc, o_iload, o_imul, o_iret, o_istore, k0, k94, r0, hn]
      try simp +contextual (disch := omega) only [impF, impT, and_true, true_and, implies_true, not_false_eq_true, not_true_eq_false]
      rw [h2]; rfl
    | succ d ih =>
      intro i h1 h2
      have hv' := hm.2.1 p i hp (by omega)
      have hb2 := hA.2.1 p i hp (by omega)
      refine z_run1 tsX8_indexOf [2] 30 ?_
      simp (maxSteps := 1000000) -implicitDefEqProofs +contextual (disch := omega) only [z_wp_t, z_wp_u, ↓pI_e, ↓pL_e, ↓pO_e, ↓pR_e, ↓p1_I, ↓p1_O, z_gl, z_st1, z_st2, z_nl_I, z_nl_O, z_nl_J, z_nl_L, if_true, if_false, ite_true, ite_false, true_and, and_true, List.mem_cons, List.not_mem_nil, or_false, false_or, or_self, List.length_cons, List.length_nil, InR_t, InL_t, z_ix_t, mI_s1, mI_s2, ↓brT, ↓brF, ↓brT', ↓brF', mL_sI, mR_sI, mK_sI, mS_sI, mI_sL, mL_s1, mL_s2, mR_sL, mK_sL, mS_sL, mI_sR, mL_sR, mR_s1, mR_s2, mK_sR, mS_sR, mA_s1, mA_s2, mL_sA, mR_sA, mK_sA, mS_sA, ix_n, ix_a, ix_m, ix_s, z_sw, z_stop, forall_const, true_implies, false_implies, imp_self, implies_true, not_true_eq_false, not_false_eq_true, ne_eq, eq_self, Option.some.injEq, reduceCtorEq, Nat.reduceAdd, Nat.reduceSub, Nat.reduceMul, Nat.reduceEqDiff, Nat.reduceLT, Nat.reduceLeDiff, Int.reduceAdd, Int.reduceMul, Int.reduceSub, Int.reduceNeg, Int.reduceToNat, Int.reduceLT, Int.reduceLE, Int.reduceEq, ↓reduceIte, List.reverse_cons, Option.toList, List.cons_append, List.nil_append, vI_inj, vL_inj, vO_inj, rI, rL, rO, rV, mI_sQ, mL_sQ, mK_sQ, mS_sQ, mQ_s1, mQ_s2, iL_and, iL_or, iL_xor, iL_shl, iL_ushr, iR_and, iR_or, iR_xor, iR_shl, iR_shr, iR_ushr, iR_cmp, yc0, tlX8_indexOf, o_aload, o_getR, o_goto, o_iadd, o_iald, o_ic, o_icge, o_icne, o_iinc, o_iload, o_imul, o_iret, o_istore, k0, k94, r0, hn, hv']
      try simp +contextual (disch := omega) only [impF, impT, and_true, true_and, implies_true, not_false_eq_true, not_true_eq_false]
      refine ⟨fun q => ih (i + 1) (by omega) ?_, fun q => ?_⟩
      · rw [h2]; simp [fIx, q]
      · rw [h2]; simp [fIx, q]
  exact hl (aN A p) 0 (by omega) rfl
