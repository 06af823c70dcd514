/-! the class' objects: their shapes; forget, beginChange -/
def ShP (h : zH) (z : Nat) : Prop := (gK h z).1 = 2 ∧ gK h (z + 1) = (9, 20) ∧ gK h (z + 2) = (9, 20) ∧ gK h (z + 3) = (9, 20) ∧ gK h (z + 4) = (9, 20) ∧ gK h (z + 5) = (10, 40) ∧ gR h z 0 = some (z + 1) ∧ gR h z 1 = some (z + 2) ∧ gR h z 2 = some (z + 3) ∧ gR h z 3 = some (z + 4) ∧ gR h z 4 = some (z + 5)
def ShO (h : zH) (o : Nat) : Prop := (gK h o).1 = 1 ∧ gK h (o + 12) = (9, 8) ∧ gK h (o + 13) = (9, 8) ∧ gK h (o + 14) = (9, 8) ∧ gK h (o + 15) = (9, 8) ∧ gR h o 0 = some (o + 1) ∧ gR h o 1 = some (o + 6) ∧ gR h o 11 = some (o + 12) ∧ gR h o 12 = some (o + 13) ∧ gR h o 13 = some (o + 14) ∧ gR h o 14 = some (o + 15) ∧ ShP h (o + 6)
def ShV (h : zH) : Prop := (gK h 0).1 = 7 ∧ gR h 0 0 = some 1 ∧ gR h 0 1 = some 2 ∧ gR h 0 2 = some 17 ∧ gR h 0 3 = some 18 ∧ gR h 0 4 = some 33 ∧ gR h 0 5 = some 85
theorem ShP.fr {S : Nat → Prop} {h h' : zH} (f : Fr S h h') {z : Nat} (hs : ¬ S z) (hr : ShP h z) : ShP h' z := by
  unfold ShP at *
  rw [f.K, f.R hs]
  exact hr
/-- no reference of an Outcome or a Puzzle changes, whatever else does -/
theorem ShP.ofR {h h' : zH} {z : Nat} (hk : gK h' = gK h) (hR : gR h' z = gR h z) (hr : ShP h z) : ShP h' z := by
  unfold ShP at *
  rw [hk, hR]
  exact hr
theorem ShO.ofR {h h' : zH} {o : Nat} (hk : gK h' = gK h) (hR : gR h' o = gR h o) (hR2 : gR h' (o + 6) = gR h (o + 6)) (hr : ShO h o) : ShO h' o := by
  obtain ⟨a1, a2, a3, a4, a5, a6, a7, a8, a9, a10, a11, a12⟩ := hr
  refine ⟨?_, ?_, ?_, ?_, ?_, ?_, ?_, ?_, ?_, ?_, ?_, a12.ofR hk hR2⟩ <;> first | (rw [hk]; assumption) | (rw [hR]; assumption)
theorem ShV.fr {S : Nat → Prop} {h h' : zH} (f : Fr S h h') (hs : ¬ S 0) (hr : ShV h) : ShV h' := by
  unfold ShV at *
  rw [f.K, f.R hs]
  exact hr
def fgt (h : zH) (o : Nat) : zH := sI (sI (sI (sI (sI h o 3 0) o 5 0) o 7 0) o 9 0) o 10 0
theorem fgt_fr (h : zH) (o : Nat) : Fr (fun c => c = o) h (fgt h o) := Fr.tr' (Fr.tr' (Fr.tr' (Fr.tr' (Fr.sI (fun c => c = o) _ _ _ _ rfl) (Fr.sI (fun c => c = o) _ _ _ _ rfl) (fun _ q => q) (fun _ q => q)) (Fr.sI (fun c => c = o) _ _ _ _ rfl) (fun _ q => q) (fun _ q => q)) (Fr.sI (fun c => c = o) _ _ _ _ rfl) (fun _ q => q) (fun _ q => q)) (Fr.sI (fun c => c = o) _ _ _ _ rfl) (fun _ q => q) (fun _ q => q)
theorem fgt_R (h : zH) (o : Nat) : gR (fgt h o) = gR h := rfl
theorem fgt_K (h : zH) (o : Nat) : gK (fgt h o) = gK h := rfl
theorem fgt_L (h : zH) (o : Nat) : gL (fgt h o) = gL h := rfl
theorem fgt_0 (h : zH) (o : Nat) : gI (fgt h o) o 3 = 0 ∧ gI (fgt h o) o 5 = 0 ∧ gI (fgt h o) o 7 = 0 ∧ gI (fgt h o) o 9 = 0 ∧ gI (fgt h o) o 10 = 0 := by
  unfold fgt
  refine ⟨?_, ?_, ?_, ?_, ?_⟩ <;> simp (disch := omega) only [mI_s1, mI_s2]
set_option maxHeartbeats 4000000 in
theorem sp_forget (l : Launch) (G : zG) (h : zH) (o : Nat) (k0 : (gK h o).1 = 1) (lv : Nat) (hlv : 1 ≤ lv) : z_Sp l G mtX1_forget lv 0 0 [vR o] (h) (rV (fgt h o)) := by
  refine x_enter [vR o] (by decide +kernel) (by omega) rfl (Nat.le_of_ble_eq_true rfl) ?_
  refine z_run1 tsX1_forget [] 40 ?_
  simp (maxSteps := 1000000) -implicitDefEqProofs +contextual (disch := omega) only [z_wp_t, z_wp_u, ↓pI_e, ↓pL_e, ↓pO_e, ↓pR_e, ↓p1_I, ↓p1_O, z_gl, z_st1, z_st2, z_nl_I, z_nl_O, z_nl_J, z_nl_L, if_true, if_false, ite_true, ite_false, true_and, and_true, List.mem_cons, List.not_mem_nil, or_false, false_or, or_self, List.length_cons, List.length_nil, InR_t, InL_t, z_ix_t, mI_s1, mI_s2, ↓brT, ↓brF, ↓brT', ↓brF', mL_sI, mR_sI, mK_sI, mS_sI, mI_sL, mL_s1, mL_s2, mR_sL, mK_sL, mS_sL, mI_sR, mL_sR, mR_s1, mR_s2, mK_sR, mS_sR, mA_s1, mA_s2, mL_sA, mR_sA, mK_sA, mS_sA, ix_n, ix_a, ix_m, ix_s, z_sw, z_stop, forall_const, true_implies, false_implies, imp_self, implies_true, not_true_eq_false, not_false_eq_true, ne_eq, eq_self, Option.some.injEq, reduceCtorEq, Nat.reduceAdd, Nat.reduceSub, Nat.reduceMul, Nat.reduceEqDiff, Nat.reduceLT, Nat.reduceLeDiff, Int.reduceAdd, Int.reduceMul, Int.reduceSub, Int.reduceNeg, Int.reduceToNat, Int.reduceLT, Int.reduceLE, Int.reduceEq, ↓reduceIte, List.reverse_cons, Option.toList, List.cons_append, List.nil_append, vI_inj, vL_inj, vO_inj, rI, rL, rO, rV, mI_sQ, mL_sQ, mK_sQ, mS_sQ, mQ_s1, mQ_s2, tlX1_forget, o_aload, o_ic, o_putZ, o_vret, k0]
  try simp +contextual (disch := omega) only [impF, impT, and_true, true_and, implies_true, not_false_eq_true, not_true_eq_false]
  all_goals (first | rfl | exact ⟨Or.inl rfl, rfl⟩ | simp [fgt])
set_option maxHeartbeats 4000000 in
theorem sp_beginChange (l : Launch) (G : zG) (h : zH) (A : zA) (hs : List zA) (hV : ShV h) (hO : ShO h 1) (hH : HiOK h hs) (hS : StOK h 2 A) (hA : AOK A) (lv : Nat) (hlv : 3 ≤ lv) : z_Sp l G mtX7_beginChange lv 0 0 [vR 0] (h) (fun r h' => r = none ∧ ∃ h1, h' = fgt h1 1 ∧ Fr (fun c => 33 ≤ c ∧ c ≤ 84) h h1 ∧ HiOK h1 (hPush hs A)) := by
  obtain ⟨v0, v1, v2, v3, v4, v5, v6⟩ := hV
  have hk := hH.1.1
  refine x_enter [vR 0] (by decide +kernel) (by omega) rfl (Nat.le_of_ble_eq_true rfl) ?_
  refine z_run1 tsX7_beginChange [] 30 ?_
  simp (maxSteps := 1000000) -implicitDefEqProofs +contextual (disch := omega) only [z_wp_t, z_wp_u, ↓pI_e, ↓pL_e, ↓pO_e, ↓pR_e, ↓p1_I, ↓p1_O, z_gl, z_st1, z_st2, z_nl_I, z_nl_O, z_nl_J, z_nl_L, if_true, if_false, ite_true, ite_false, true_and, and_true, List.mem_cons, List.not_mem_nil, or_false, false_or, or_self, List.length_cons, List.length_nil, InR_t, InL_t, z_ix_t, mI_s1, mI_s2, ↓brT, ↓brF, ↓brT', ↓brF', mL_sI, mR_sI, mK_sI, mS_sI, mI_sL, mL_s1, mL_s2, mR_sL, mK_sL, mS_sL, mI_sR, mL_sR, mR_s1, mR_s2, mK_sR, mS_sR, mA_s1, mA_s2, mL_sA, mR_sA, mK_sA, mS_sA, ix_n, ix_a, ix_m, ix_s, z_sw, z_stop, forall_const, true_implies, false_implies, imp_self, implies_true, not_true_eq_false, not_false_eq_true, ne_eq, eq_self, Option.some.injEq, reduceCtorEq, Nat.reduceAdd, Nat.reduceSub, Nat.reduceMul, Nat.reduceEqDiff, Nat.reduceLT, Nat.reduceLeDiff, Int.reduceAdd, Int.reduceMul, Int.reduceSub, Int.reduceNeg, Int.reduceToNat, Int.reduceLT, Int.reduceLE, Int.reduceEq, ↓reduceIte, List.reverse_cons, Option.toList, List.cons_append, List.nil_append, vI_inj, vL_inj, vO_inj, rI, rL, rO, rV, mI_sQ, mL_sQ, mK_sQ, mS_sQ, mQ_s1, mQ_s2, tlX7_beginChange, tkX7_beginChange, o_aload, o_getR, o_vret, v0, v2, v5]
  try simp +contextual (disch := omega) only [impF, impT, and_true, true_and, implies_true, not_false_eq_true, not_true_eq_false]
  refine x_callV (by decide +kernel) cv_X7_93 (sp_histKeep l G h 2 A hs hH hS hA (by omega) 2 (by omega)) hk (by omega) rfl (by omega) (by omega) rfl (Nat.le_of_ble_eq_true rfl) ?_
  rintro r h1 ⟨rfl, hf1, hH1⟩
  have w0 : (gK h1 0).1 = 7 := by rw [hf1.K]; exact v0
  have w1 : gR h1 0 0 = some 1 := by rw [hf1.R (by omega)]; exact v1
  have w2 : (gK h1 1).1 = 1 := by rw [hf1.K]; exact hO.1
  refine z_run1 tsX7_beginChange [] 30 ?_
  simp (maxSteps := 1000000) -implicitDefEqProofs +contextual (disch := omega) only [z_wp_t, z_wp_u, ↓pI_e, ↓pL_e, ↓pO_e, ↓pR_e, ↓p1_I, ↓p1_O, z_gl, z_st1, z_st2, z_nl_I, z_nl_O, z_nl_J, z_nl_L, if_true, if_false, ite_true, ite_false, true_and, and_true, List.mem_cons, List.not_mem_nil, or_false, false_or, or_self, List.length_cons, List.length_nil, InR_t, InL_t, z_ix_t, mI_s1, mI_s2, ↓brT, ↓brF, ↓brT', ↓brF', mL_sI, mR_sI, mK_sI, mS_sI, mI_sL, mL_s1, mL_s2, mR_sL, mK_sL, mS_sL, mI_sR, mL_sR, mR_s1, mR_s2, mK_sR, mS_sR, mA_s1, mA_s2, mL_sA, mR_sA, mK_sA, mS_sA, ix_n, ix_a, ix_m, ix_s, z_sw, z_stop, forall_const, true_implies, false_implies, imp_self, implies_true, not_true_eq_false, not_false_eq_true, ne_eq, eq_self, Option.some.injEq, reduceCtorEq, Nat.reduceAdd, Nat.reduceSub, Nat.reduceMul, Nat.reduceEqDiff, Nat.reduceLT, Nat.reduceLeDiff, Int.reduceAdd, Int.reduceMul, Int.reduceSub, Int.reduceNeg, Int.reduceToNat, Int.reduceLT, Int.reduceLE, Int.reduceEq, ↓reduceIte, List.reverse_cons, Option.toList, List.cons_append, List.nil_append, vI_inj, vL_inj, vO_inj, rI, rL, rO, rV, mI_sQ, mL_sQ, mK_sQ, mS_sQ, mQ_s1, mQ_s2, tlX7_beginChange, tkX7_beginChange, o_aload, o_getR, o_vret, w0, w1]
  try simp +contextual (disch := omega) only [impF, impT, and_true, true_and, implies_true, not_false_eq_true, not_true_eq_false]
  refine x_callV (by decide +kernel) cv_X7_100 (sp_forget l G h1 1 w2 1 (by omega)) w2 (by omega) rfl (by omega) (by omega) rfl (Nat.le_of_ble_eq_true rfl) ?_
  rintro r h2 ⟨rfl, rfl⟩
  refine z_run1 tsX7_beginChange [] 30 ?_
  simp (maxSteps := 1000000) -implicitDefEqProofs +contextual (disch := omega) only [z_wp_t, z_wp_u, ↓pI_e, ↓pL_e, ↓pO_e, ↓pR_e, ↓p1_I, ↓p1_O, z_gl, z_st1, z_st2, z_nl_I, z_nl_O, z_nl_J, z_nl_L, if_true, if_false, ite_true, ite_false, true_and, and_true, List.mem_cons, List.not_mem_nil, or_false, false_or, or_self, List.length_cons, List.length_nil, InR_t, InL_t, z_ix_t, mI_s1, mI_s2, ↓brT, ↓brF, ↓brT', ↓brF', mL_sI, mR_sI, mK_sI, mS_sI, mI_sL, mL_s1, mL_s2, mR_sL, mK_sL, mS_sL, mI_sR, mL_sR, mR_s1, mR_s2, mK_sR, mS_sR, mA_s1, mA_s2, mL_sA, mR_sA, mK_sA, mS_sA, ix_n, ix_a, ix_m, ix_s, z_sw, z_stop, forall_const, true_implies, false_implies, imp_self, implies_true, not_true_eq_false, not_false_eq_true, ne_eq, eq_self, Option.some.injEq, reduceCtorEq, Nat.reduceAdd, Nat.reduceSub, Nat.reduceMul, Nat.reduceEqDiff, Nat.reduceLT, Nat.reduceLeDiff, Int.reduceAdd, Int.reduceMul, Int.reduceSub, Int.reduceNeg, Int.reduceToNat, Int.reduceLT, Int.reduceLE, Int.reduceEq, ↓reduceIte, List.reverse_cons, Option.toList, List.cons_append, List.nil_append, vI_inj, vL_inj, vO_inj, rI, rL, rO, rV, mI_sQ, mL_sQ, mK_sQ, mS_sQ, mQ_s1, mQ_s2, tlX7_beginChange, tkX7_beginChange, o_aload, o_getR, o_vret]
  try simp +contextual (disch := omega) only [impF, impT, and_true, true_and, implies_true, not_false_eq_true, not_true_eq_false]
  exact ⟨h1, rfl, hf1, hH1⟩
