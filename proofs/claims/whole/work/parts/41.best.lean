/-! Puzzle.best, isSolvable, isSolvableWith -/
theorem sI_slf (h : zH) (a k : Nat) : sI h a k (gI h a k) = h := by
  refine zH_ext rfl ?_ rfl rfl
  funext b j
  rw [mI_sI]
  split
  · rename_i q; rw [q.1, q.2]
  · rfl
def NlOK (h : zH) (z : Nat) : Prop := 0 ≤ gI h z 10 ∧ gI h z 10 ≤ 80
def PzN (h h' : zH) (z : Nat) (A : zA) (m : Int) : Prop := Fr (fun c => c = z ∨ c = z + 5) h h' ∧ gR h' = gR h ∧ PzD h' z A ∧ gI h' z 9 = m ∧ ImpOK h' z A (tb m) ∧ NlOK h' z
theorem PzD.X {h : zH} {z : Nat} {A : zA} (hD : PzD h z A) (m : Int) (O : Int) (F : Nat → Int) : PzD (hX z (sI h z 9 m) O F) z A := by
  refine ⟨fun r hr => (hD.1 r hr).o ?_ ?_ ?_ ?_, ?_, ?_⟩
  · rw [hX_I, mI_s2 _ _ (Or.inl (by omega))]
  · rw [hX_I, mI_s2 _ _ (Or.inl (by omega))]
  · rw [hX_I, mI_s2 _ _ (Or.inl (by omega))]
  · rw [hX_I, mI_s2 _ _ (Or.inl (by omega))]
  · rw [hX_n _ _ _ _ (by omega)]; exact hD.2.1
  · rw [hX_n _ _ _ _ (by omega), hX_n _ _ _ _ (by omega)]; exact hD.2.2
theorem PzN.mk' {h : zH} {z : Nat} {A : zA} {m : Int} {O : Int} {F : Nat → Int} (hD : PzD h z A) (hn : NlOK h z) (hI : ImpOK (hX z (sI h z 9 m) O F) z A (tb m)) : PzN h (hX z (sI h z 9 m) O F) z A m := by
  refine ⟨Fr.tr' (Fr_I1 _ _ _ _) (hX_fr _ _ _ _) (fun c q => Or.inl q) (fun c q => q), rfl, hD.X m O F, by rw [hX_I, mI_s1], hI, ?_⟩
  unfold NlOK
  rw [hX_I, mI_s2 _ _ (Or.inr (by omega))]
  exact hn
theorem ImpOK.I {h : zH} {z : Nat} {A : zA} {S : Nat → Bool} (hI : ImpOK h z A S) (a k : Nat) (w : Int) : ImpOK (sI h a k w) z A S := by
  unfold ImpOK
  rw [mL_sI]
  exact hI
theorem PzN.nl {h h' : zH} {z : Nat} {A : zA} {m : Int} (hN : PzN h h' z A m) {n : Nat} (hn : n ≤ 80) : PzN h (sI h' z 10 n) z A m := by
  obtain ⟨a1, a2, a3, a4, a5, a6⟩ := hN
  refine ⟨a1.tr' (Fr_I1 _ _ _ _) (fun c q => q) (fun c q => Or.inl q), by rw [mR_sI]; exact a2, ⟨fun r hr => (a3.1 r hr).o (mI_s2 _ _ (Or.inl (by omega))) (mI_s2 _ _ (Or.inl (by omega))) (mI_s2 _ _ (Or.inl (by omega))) (mI_s2 _ _ (Or.inl (by omega))), by rw [mL_sI]; exact a3.2.1, by rw [mL_sI]; exact a3.2.2⟩, by rw [mI_s2 _ _ (Or.inr (by omega))]; exact a4, a5.I _ _ _, ?_⟩
  unfold NlOK
  rw [mI_s1]
  omega
theorem ImpOK.fil {h : zH} {z : Nat} {A : zA} {S : Nat → Bool} (hI : ImpOK h z A S) : (enum 8 s0).filter (fwB (gL h (z + 5)) (gL h z 8) 0) = solL A S := by
  unfold solL
  refine filt_congr fun t ht => ?_
  have h4 := (enum_all.mp ht).1
  apply Bool.eq_iff_iff.mpr
  rw [solB_iff, ← hI.2.2.2.2.2 t h4, fwB_iff]
  constructor
  · rintro ⟨q1, q2⟩; exact ⟨q1, fun p hp q hq => q2 p hp q hq (by omega)⟩
  · rintro ⟨q1, q2⟩; exact ⟨q1, fun p hp q hq _ => q2 p hp q hq⟩
theorem find_80 {A : zA} {l : List (Nat → Nat)} : l.find? (fun t => decide (cost A t ≤ 80)) = l.head? := by
  cases l with
  | nil => rfl
  | cons a l => rw [List.find?_cons, show decide (cost A a ≤ 80) = true by simp [cost_le A a]]; rfl
theorem sol_4 {A : zA} {S : Nat → Bool} {t : Nat → Nat} (h : t ∈ solL A S) : ∀ p, p < 8 → t p ≤ 4 := (enum_all.mp (List.mem_filter.mp h).1).1
/-- firstWithin from the first package on -/
theorem sp_first0 (l : Launch) (G : zG) (h : zH) (z : Nat) (A : zA) (S : Nat → Bool) (x : Int) (L nl : Nat) (hsh : ShP h z) (hD : PzD h z A) (hA : AOK A) (hI : ImpOK h z A S) (hL : L ≤ 80) (hnl : nl ≤ 80) (hx : InL x) (hsub : ∀ j, lb (gL h z 8) j = false → lb x j = false) (lv : Nat) (hlv : 11 ≤ lv) : z_Sp l G mtX2_firstWithin lv 0 0 [vR z, vI 0, vL x, vI L] (sI h z 10 nl) (fwQ h z A (gL h (z + 5)) L 8 0 s0 x nl) := by
  have hxx : ∀ j, lb x j = true → lb (gL h z 8) j = true := fun j hj => by
    cases q : lb (gL h z 8) j
    · rw [hsub j q] at hj; cases hj
    · rfl
  exact sp_firstWithin l G h z A (gL h (z + 5)) _ _ L hsh rfl rfl rfl hD.2.2 hA hI.2.2.2.1.1 hL 8 0 s0 x nl (by omega) hnl hx (fun j hj => hsub j (hI.2.1 j hj)) (fun p v hp hv q => hI.2.2.1 p v hp hv (hxx _ q)) (fun p v hp => by omega) (fun p hp => by omega) (fun q => by omega) lv (by omega)
def encO (y : Int) : Option (Nat → Nat) → Prop
  | some t => Enc y t
  | none => y = 0
theorem int0 : ((0 : Nat) : Int) = 0 := rfl
set_option maxRecDepth 4000 in
set_option maxHeartbeats 4000000 in
theorem sp_best (l : Launch) (G : zG) (h : zH) (z : Nat) (m : Int) (A : zA) (hsh : ShP h z) (hD : PzD h z A) (hA : AOK A) (hm : 0 ≤ m ∧ m < 1048576) (hmb : ∀ r, tb m r = true → r < aC A) (hI : PzI h z A) (hnl : NlOK h z) (lv : Nat) (hlv : 12 ≤ lv) : z_Sp l G mtX2_best lv 0 0 [vR z, vI m] (h) (fun r h' => ∃ y, r = some (vL y) ∧ InL y ∧ PzN h h' z A m ∧ encO y (bstL (cost A) (solL A (tb m)))) := by
  have k0 := hsh.1
  refine x_enter [vR z, vI m, vJ, vJ, vJ, vJ] (by decide +kernel) (by omega) rfl (Nat.le_of_ble_eq_true rfl) ?_
  generalize hQ : (fun (r : Option zV) (h' : zH) => ∃ y, r = some (vL y) ∧ InL y ∧ PzN h h' z A m ∧ encO y (bstL (cost A) (solL A (tb m)))) = QQ
  refine z_run1 tsX2_best [] 20 ?_
  simp (maxSteps := 1000000) -implicitDefEqProofs +contextual (disch := omega) only [z_wp_t, z_wp_u, ↓pI_e, ↓pL_e, ↓pO_e, ↓pR_e, ↓p1_I, ↓p1_O, z_gl, z_st1, z_st2, z_nl_I, z_nl_O, z_nl_J, z_nl_L, if_true, if_false, ite_true, ite_false, true_and, and_true, List.mem_cons, List.not_mem_nil, or_false, false_or, or_self, List.length_cons, List.length_nil, InR_t, InL_t, z_ix_t, mI_s1, mI_s2, ↓brT, ↓brF, ↓brT', ↓brF', mL_sI, mR_sI, mK_sI, mS_sI, mI_sL, mL_s1, mL_s2, mR_sL, mK_sL, mS_sL, mI_sR, mL_sR, mR_s1, mR_s2, mK_sR, mS_sR, mA_s1, mA_s2, mL_sA, mR_sA, mK_sA, mS_sA, ix_n, ix_a, ix_m, ix_s, z_sw, z_stop, forall_const, true_implies, false_implies, imp_self, implies_true, not_true_eq_false, not_false_eq_true, ne_eq, eq_self, Option.some.injEq, reduceCtorEq, Nat.reduceAdd, Nat.reduceSub, Nat.reduceMul, Nat.reduceEqDiff, Nat.reduceLT, Nat.reduceLeDiff, Int.reduceAdd, Int.reduceMul, Int.reduceSub, Int.reduceNeg, Int.reduceToNat, Int.reduceLT, Int.reduceLE, Int.reduceEq, ↓reduceIte, List.reverse_cons, Option.toList, List.cons_append, List.nil_append, vI_inj, vL_inj, vO_inj, rI, rL, rO, rV, mI_sQ, mL_sQ, mK_sQ, mS_sQ, mQ_s1, mQ_s2, iL_and, iL_or, iL_xor, iL_shl, iL_ushr, iR_and, iR_or, iR_xor, iR_shl, iR_shr, iR_ushr, iR_cmp, yc0, tlX2_best, tkX2_best, o_aload, o_getI, o_getL, o_goto, o_ic, o_icgt, o_ifeq, o_ifne, o_iinc, o_iload, o_istore, o_lc, o_lcmp, o_lload, o_lret, o_lstore, o_putI]
  try simp +contextual (disch := omega) only [impF, impT, and_true, true_and, implies_true, not_false_eq_true, not_true_eq_false]
  refine x_callV (by decide +kernel) cv_X2_116 (sp_impose l G h z m A hsh hD hA hm hmb hI 3 (by omega)) k0 (by omega) rfl (by omega) (by omega) rfl (Nat.le_of_ble_eq_true rfl) ?_
  rintro r h1 ⟨rfl, O, F, hh1, hI1⟩
  have hN1 : PzN h h1 z A m := by rw [hh1] at hI1 ⊢; exact PzN.mk' hD hnl hI1
  have hsh1 : ShP h1 z := hsh.ofR hN1.1.K (by rw [hN1.2.1])
  have k1 := hsh1.1
  obtain ⟨n0, hn0⟩ := Int.eq_ofNat_of_zero_le hN1.2.2.2.2.2.1
  have hn80 : n0 ≤ 80 := by have := hN1.2.2.2.2.2.2; omega
  obtain ⟨X, hX8⟩ : ∃ X, gL h1 z 8 = X := ⟨_, rfl⟩
  have hXL : InL X := by rw [← hX8]; exact hI1.1
  have hfil := hI1.fil
  have hself : h1 = sI h1 z 10 (n0 : Int) := by
    have := sI_slf h1 z 10
    rw [hn0] at this
    exact this.symm
  have hfirst := fun (L nl : Nat) (hL : L ≤ 80) (hnl : nl ≤ 80) => sp_first0 l G h1 z A (tb m) X L nl hsh1 hN1.2.2.1 hA hI1 hL hnl hXL (fun j hj => by rw [← hX8]; exact hj) 11 (by omega)
  refine z_run1 tsX2_best [] 20 ?_
  simp (maxSteps := 1000000) -implicitDefEqProofs +contextual (disch := omega) only [z_wp_t, z_wp_u, ↓pI_e, ↓pL_e, ↓pO_e, ↓pR_e, ↓p1_I, ↓p1_O, z_gl, z_st1, z_st2, z_nl_I, z_nl_O, z_nl_J, z_nl_L, if_true, if_false, ite_true, ite_false, true_and, and_true, List.mem_cons, List.not_mem_nil, or_false, false_or, or_self, List.length_cons, List.length_nil, InR_t, InL_t, z_ix_t, mI_s1, mI_s2, ↓brT, ↓brF, ↓brT', ↓brF', mL_sI, mR_sI, mK_sI, mS_sI, mI_sL, mL_s1, mL_s2, mR_sL, mK_sL, mS_sL, mI_sR, mL_sR, mR_s1, mR_s2, mK_sR, mS_sR, mA_s1, mA_s2, mL_sA, mR_sA, mK_sA, mS_sA, ix_n, ix_a, ix_m, ix_s, z_sw, z_stop, forall_const, true_implies, false_implies, imp_self, implies_true, not_true_eq_false, not_false_eq_true, ne_eq, eq_self, Option.some.injEq, reduceCtorEq, Nat.reduceAdd, Nat.reduceSub, Nat.reduceMul, Nat.reduceEqDiff, Nat.reduceLT, Nat.reduceLeDiff, Int.reduceAdd, Int.reduceMul, Int.reduceSub, Int.reduceNeg, Int.reduceToNat, Int.reduceLT, Int.reduceLE, Int.reduceEq, ↓reduceIte, List.reverse_cons, Option.toList, List.cons_append, List.nil_append, vI_inj, vL_inj, vO_inj, rI, rL, rO, rV, mI_sQ, mL_sQ, mK_sQ, mS_sQ, mQ_s1, mQ_s2, iL_and, iL_or, iL_xor, iL_shl, iL_ushr, iR_and, iR_or, iR_xor, iR_shl, iR_shr, iR_ushr, iR_cmp, yc0, tlX2_best, tkX2_best, o_aload, o_getI, o_getL, o_goto, o_ic, o_icgt, o_ifeq, o_ifne, o_iinc, o_iload, o_istore, o_lc, o_lcmp, o_lload, o_lret, o_lstore, o_putI, k1, hX8]
  try simp +contextual (disch := omega) only [impF, impT, and_true, true_and, implies_true, not_false_eq_true, not_true_eq_false]
  have hf0 := hfirst 80 n0 (by omega) hn80
  rw [← hself] at hf0
  refine x_callS (by decide +kernel) cv_X2_119 (hf0) (by omega) rfl (by omega) (by omega) rfl (Nat.le_of_ble_eq_true rfl) ?_
  rintro r h' ⟨y, nl2, rfl, rfl, hnl2, hyL, hmm⟩
  rw [hX8] at hfil
  rw [hfil, find_80] at hmm
  cases hso : solL A (tb m) with
  | nil =>
    rw [hso] at hmm
    obtain ⟨rfl, -⟩ := hmm
    refine z_run1 tsX2_best [] 20 ?_
    simp (maxSteps := 1000000) -implicitDefEqProofs +contextual (disch := omega) only [z_wp_t, z_wp_u, ↓pI_e, ↓pL_e, ↓pO_e, ↓pR_e, ↓p1_I, ↓p1_O, z_gl, z_st1, z_st2, z_nl_I, z_nl_O, z_nl_J, z_nl_L, if_true, if_false, ite_true, ite_false, true_and, and_true, List.mem_cons, List.not_mem_nil, or_false, false_or, or_self, List.length_cons, List.length_nil, InR_t, InL_t, z_ix_t, mI_s1, mI_s2, ↓brT, ↓brF, ↓brT', ↓brF', mL_sI, mR_sI, mK_sI, mS_sI, mI_sL, mL_s1, mL_s2, mR_sL, mK_sL, mS_sL, mI_sR, mL_sR, mR_s1, mR_s2, mK_sR, mS_sR, mA_s1, mA_s2, mL_sA, mR_sA, mK_sA, mS_sA, ix_n, ix_a, ix_m, ix_s, z_sw, z_stop, forall_const, true_implies, false_implies, imp_self, implies_true, not_true_eq_false, not_false_eq_true, ne_eq, eq_self, Option.some.injEq, reduceCtorEq, Nat.reduceAdd, Nat.reduceSub, Nat.reduceMul, Nat.reduceEqDiff, Nat.reduceLT, Nat.reduceLeDiff, Int.reduceAdd, Int.reduceMul, Int.reduceSub, Int.reduceNeg, Int.reduceToNat, Int.reduceLT, Int.reduceLE, Int.reduceEq, ↓reduceIte, List.reverse_cons, Option.toList, List.cons_append, List.nil_append, vI_inj, vL_inj, vO_inj, rI, rL, rO, rV, mI_sQ, mL_sQ, mK_sQ, mS_sQ, mQ_s1, mQ_s2, iL_and, iL_or, iL_xor, iL_shl, iL_ushr, iR_and, iR_or, iR_xor, iR_shl, iR_shr, iR_ushr, iR_cmp, yc0, tlX2_best, tkX2_best, o_aload, o_getI, o_getL, o_goto, o_ic, o_icgt, o_ifeq, o_ifne, o_iinc, o_iload, o_istore, o_lc, o_lcmp, o_lload, o_lret, o_lstore, o_putI]
    try simp +contextual (disch := omega) only [impF, impT, and_true, true_and, implies_true, not_false_eq_true, not_true_eq_false]
    rw [← hQ]
    refine ⟨0, rfl, by unfold InL; omega, hN1.nl hnl2, ?_⟩
    rw [hso]
    rfl
  | cons t0 tl =>
    rw [hso] at hmm
    have ht0 : t0 ∈ solL A (tb m) := by rw [hso]; exact List.mem_cons_self
    have hy0 := Enc_ne hmm.1 (sol_4 ht0)
    obtain ⟨b, hb⟩ : ∃ b, bstL (cost A) (solL A (tb m)) = some b := by
      cases q : bstL (cost A) (solL A (tb m)) with
      | none => rw [bstL_none] at q; rw [q] at ht0; cases ht0
      | some b => exact ⟨b, rfl⟩
    obtain ⟨hbm, hbc⟩ := bstL_mem hb
    have hb80 := cost_le A b
    have e8 : gL (sI h1 z 10 nl2) z 8 = X := by rw [mL_sI]; exact hX8
    have k2 : (gK (sI h1 z 10 nl2) z).1 = 2 := k1
    refine z_run1 tsX2_best [] 20 ?_
    simp (maxSteps := 1000000) -implicitDefEqProofs +contextual (disch := omega) only [z_wp_t, z_wp_u, ↓pI_e, ↓pL_e, ↓pO_e, ↓pR_e, ↓p1_I, ↓p1_O, z_gl, z_st1, z_st2, z_nl_I, z_nl_O, z_nl_J, z_nl_L, if_true, if_false, ite_true, ite_false, true_and, and_true, List.mem_cons, List.not_mem_nil, or_false, false_or, or_self, List.length_cons, List.length_nil, InR_t, InL_t, z_ix_t, mI_s1, mI_s2, ↓brT, ↓brF, ↓brT', ↓brF', mL_sI, mR_sI, mK_sI, mS_sI, mI_sL, mL_s1, mL_s2, mR_sL, mK_sL, mS_sL, mI_sR, mL_sR, mR_s1, mR_s2, mK_sR, mS_sR, mA_s1, mA_s2, mL_sA, mR_sA, mK_sA, mS_sA, ix_n, ix_a, ix_m, ix_s, z_sw, z_stop, forall_const, true_implies, false_implies, imp_self, implies_true, not_true_eq_false, not_false_eq_true, ne_eq, eq_self, Option.some.injEq, reduceCtorEq, Nat.reduceAdd, Nat.reduceSub, Nat.reduceMul, Nat.reduceEqDiff, Nat.reduceLT, Nat.reduceLeDiff, Int.reduceAdd, Int.reduceMul, Int.reduceSub, Int.reduceNeg, Int.reduceToNat, Int.reduceLT, Int.reduceLE, Int.reduceEq, ↓reduceIte, List.reverse_cons, Option.toList, List.cons_append, List.nil_append, vI_inj, vL_inj, vO_inj, rI, rL, rO, rV, mI_sQ, mL_sQ, mK_sQ, mS_sQ, mQ_s1, mQ_s2, iL_and, iL_or, iL_xor, iL_shl, iL_ushr, iR_and, iR_or, iR_xor, iR_shl, iR_shr, iR_ushr, iR_cmp, yc0, tlX2_best, tkX2_best, o_aload, o_getI, o_getL, o_goto, o_ic, o_icgt, o_ifeq, o_ifne, o_iinc, o_iload, o_istore, o_lc, o_lcmp, o_lload, o_lret, o_lstore, o_putI, hy0, hyL, k1, hX8]
    try simp +contextual (disch := omega) only [impF, impT, and_true, true_and, implies_true, not_false_eq_true, not_true_eq_false]
    refine x_callV (by decide +kernel) cv_X2_123 (sp_leastCost l G (sI h1 z 10 nl2) z X _ _ k2 rfl rfl 2 (by omega)) k2 (by omega) rfl (by omega) (by omega) rfl (Nat.le_of_ble_eq_true rfl) ?_
    rintro r h' ⟨rfl, hE⟩
    subst h'
    have hlc : lcN (gL h1 z 6) (gL h1 z 7) X ≤ cost A b := by
      refine lc_le hA hN1.2.2.1.2.2 (fun p v hp hv q => hI1.2.2.1 p v hp hv (by rw [hX8]; exact q)) ?_ (sol_4 hbm)
      rw [← hX8]
      exact ((hI1.2.2.2.2.2 b (sol_4 hbm)).mpr (solB_iff.mp (List.mem_filter.mp hbm).2)).1
    rw [mL_sI]
    generalize hlim : lcN (gL h1 z 6) (gL h1 z 7) X = lim at hlc
    have hlo : ∀ (d i lim nl : Nat), i + d = 81 → lim ≤ cost A b → i ≤ lim → z_X l G mtX2_best lv 0 0 (QQ) 0 0 (sI h1 z 10 nl) 34 [vR z, vI m, vI lim, vI i, vJ, vJ] [] := by
      intro d
      induction d with
      | zero => intro i lim nl h1 h2 h3; omega
      | succ d ih =>
        intro i lim nl hi hlc hil
        have k3 : (gK (sI h1 z 10 nl) z).1 = 2 := k1
        have k4 : (gK (sI h1 z 10 80) z).1 = 2 := k1
        have e84 : gL (sI h1 z 10 80) z 8 = X := by rw [mL_sI]; exact hX8
        refine z_run1 tsX2_best [] 20 ?_
        simp (maxSteps := 1000000) -implicitDefEqProofs +contextual (disch := omega) only [z_wp_t, z_wp_u, ↓pI_e, ↓pL_e, ↓pO_e, ↓pR_e, ↓p1_I, ↓p1_O, z_gl, z_st1, z_st2, z_nl_I, z_nl_O, z_nl_J, z_nl_L, if_true, if_false, ite_true, ite_false, true_and, and_true, List.mem_cons, List.not_mem_nil, or_false, false_or, or_self, List.length_cons, List.length_nil, InR_t, InL_t, z_ix_t, mI_s1, mI_s2, ↓brT, ↓brF, ↓brT', ↓brF', mL_sI, mR_sI, mK_sI, mS_sI, mI_sL, mL_s1, mL_s2, mR_sL, mK_sL, mS_sL, mI_sR, mL_sR, mR_s1, mR_s2, mK_sR, mS_sR, mA_s1, mA_s2, mL_sA, mR_sA, mK_sA, mS_sA, ix_n, ix_a, ix_m, ix_s, z_sw, z_stop, forall_const, true_implies, false_implies, imp_self, implies_true, not_true_eq_false, not_false_eq_true, ne_eq, eq_self, Option.some.injEq, reduceCtorEq, Nat.reduceAdd, Nat.reduceSub, Nat.reduceMul, Nat.reduceEqDiff, Nat.reduceLT, Nat.reduceLeDiff, Int.reduceAdd, Int.reduceMul, Int.reduceSub, Int.reduceNeg, Int.reduceToNat, Int.reduceLT, Int.reduceLE, Int.reduceEq, ↓reduceIte, List.reverse_cons, Option.toList, List.cons_append, List.nil_append, vI_inj, vL_inj, vO_inj, rI, rL, rO, rV, mI_sQ, mL_sQ, mK_sQ, mS_sQ, mQ_s1, mQ_s2, iL_and, iL_or, iL_xor, iL_shl, iL_ushr, iR_and, iR_or, iR_xor, iR_shl, iR_shr, iR_ushr, iR_cmp, yc0, tlX2_best, tkX2_best, o_aload, o_getI, o_getL, o_goto, o_ic, o_icgt, o_ifeq, o_ifne, o_iinc, o_iload, o_istore, o_lc, o_lcmp, o_lload, o_lret, o_lstore, o_putI, k1, sI_sI, hX8]
        try simp +contextual (disch := omega) only [impF, impT, and_true, true_and, implies_true, not_false_eq_true, not_true_eq_false]
        refine x_callS (by decide +kernel) cv_X2_119 ((hfirst lim 80 (by omega) (by omega))) (by omega) rfl (by omega) (by omega) rfl (Nat.le_of_ble_eq_true rfl) ?_
        rintro r h' ⟨y, nl3, rfl, rfl, hnl3, hyL, hmm⟩
        rw [hfil] at hmm
        cases hfd : (solL A (tb m)).find? (fun t => decide (cost A t ≤ lim)) with
        | some t =>
          rw [hfd] at hmm
          have htm := List.mem_of_find?_eq_some hfd
          have hy0 := Enc_ne hmm.1 (sol_4 htm)
          refine z_run1 tsX2_best [] 20 ?_
          simp (maxSteps := 1000000) -implicitDefEqProofs +contextual (disch := omega) only [z_wp_t, z_wp_u, ↓pI_e, ↓pL_e, ↓pO_e, ↓pR_e, ↓p1_I, ↓p1_O, z_gl, z_st1, z_st2, z_nl_I, z_nl_O, z_nl_J, z_nl_L, if_true, if_false, ite_true, ite_false, true_and, and_true, List.mem_cons, List.not_mem_nil, or_false, false_or, or_self, List.length_cons, List.length_nil, InR_t, InL_t, z_ix_t, mI_s1, mI_s2, ↓brT, ↓brF, ↓brT', ↓brF', mL_sI, mR_sI, mK_sI, mS_sI, mI_sL, mL_s1, mL_s2, mR_sL, mK_sL, mS_sL, mI_sR, mL_sR, mR_s1, mR_s2, mK_sR, mS_sR, mA_s1, mA_s2, mL_sA, mR_sA, mK_sA, mS_sA, ix_n, ix_a, ix_m, ix_s, z_sw, z_stop, forall_const, true_implies, false_implies, imp_self, implies_true, not_true_eq_false, not_false_eq_true, ne_eq, eq_self, Option.some.injEq, reduceCtorEq, Nat.reduceAdd, Nat.reduceSub, Nat.reduceMul, Nat.reduceEqDiff, Nat.reduceLT, Nat.reduceLeDiff, Int.reduceAdd, Int.reduceMul, Int.reduceSub, Int.reduceNeg, Int.reduceToNat, Int.reduceLT, Int.reduceLE, Int.reduceEq, ↓reduceIte, List.reverse_cons, Option.toList, List.cons_append, List.nil_append, vI_inj, vL_inj, vO_inj, rI, rL, rO, rV, mI_sQ, mL_sQ, mK_sQ, mS_sQ, mQ_s1, mQ_s2, iL_and, iL_or, iL_xor, iL_shl, iL_ushr, iR_and, iR_or, iR_xor, iR_shl, iR_shr, iR_ushr, iR_cmp, yc0, tlX2_best, tkX2_best, o_aload, o_getI, o_getL, o_goto, o_ic, o_icgt, o_ifeq, o_ifne, o_iinc, o_iload, o_istore, o_lc, o_lcmp, o_lload, o_lret, o_lstore, o_putI, hy0, hyL]
          try simp +contextual (disch := omega) only [impF, impT, and_true, true_and, implies_true, not_false_eq_true, not_true_eq_false]
          rw [← hQ]
          refine ⟨y, rfl, hyL, hN1.nl hnl3, ?_⟩
          rw [bstL_find (fun u hu => Nat.le_trans hlc (hbc u hu)) hfd]
          exact hmm.1
        | none =>
          rw [hfd] at hmm
          obtain ⟨rfl, g1, g2, g3⟩ := hmm
          rw [List.find?_eq_none] at hfd
          have hlt := hfd b hbm
          simp at hlt
          have hb2 := g3 b (List.mem_filter.mp hbm).1 (by
            have : b ∈ (enum 8 s0).filter (fwB (gL h1 (z + 5)) X 0) := by rw [hfil]; exact hbm
            exact (List.mem_filter.mp this).2)
          have hnx := ih (i + 1) nl3 nl3 (by omega) hb2 (by have := g2 (by omega); omega)
          have k5 : (gK (sI h1 z 10 nl3) z).1 = 2 := k1
          have e10 : gI (sI h1 z 10 nl3) z 10 = (nl3 : Int) := mI_s1 _ _ _ _
          refine z_run1 tsX2_best [34] 20 ?_
          simp (maxSteps := 1000000) -implicitDefEqProofs +contextual (disch := omega) only [z_wp_t, z_wp_u, ↓pI_e, ↓pL_e, ↓pO_e, ↓pR_e, ↓p1_I, ↓p1_O, z_gl, z_st1, z_st2, z_nl_I, z_nl_O, z_nl_J, z_nl_L, if_true, if_false, ite_true, ite_false, true_and, and_true, List.mem_cons, List.not_mem_nil, or_false, false_or, or_self, List.length_cons, List.length_nil, InR_t, InL_t, z_ix_t, mI_s1, mI_s2, ↓brT, ↓brF, ↓brT', ↓brF', mL_sI, mR_sI, mK_sI, mS_sI, mI_sL, mL_s1, mL_s2, mR_sL, mK_sL, mS_sL, mI_sR, mL_sR, mR_s1, mR_s2, mK_sR, mS_sR, mA_s1, mA_s2, mL_sA, mR_sA, mK_sA, mS_sA, ix_n, ix_a, ix_m, ix_s, z_sw, z_stop, forall_const, true_implies, false_implies, imp_self, implies_true, not_true_eq_false, not_false_eq_true, ne_eq, eq_self, Option.some.injEq, reduceCtorEq, Nat.reduceAdd, Nat.reduceSub, Nat.reduceMul, Nat.reduceEqDiff, Nat.reduceLT, Nat.reduceLeDiff, Int.reduceAdd, Int.reduceMul, Int.reduceSub, Int.reduceNeg, Int.reduceToNat, Int.reduceLT, Int.reduceLE, Int.reduceEq, ↓reduceIte, List.reverse_cons, Option.toList, List.cons_append, List.nil_append, vI_inj, vL_inj, vO_inj, rI, rL, rO, rV, mI_sQ, mL_sQ, mK_sQ, mS_sQ, mQ_s1, mQ_s2, iL_and, iL_or, iL_xor, iL_shl, iL_ushr, iR_and, iR_or, iR_xor, iR_shl, iR_shr, iR_ushr, iR_cmp, yc0, tlX2_best, tkX2_best, o_aload, o_getI, o_getL, o_goto, o_ic, o_icgt, o_ifeq, o_ifne, o_iinc, o_iload, o_istore, o_lc, o_lcmp, o_lload, o_lret, o_lstore, o_putI, k1]
          try simp +contextual (disch := omega) only [impF, impT, and_true, true_and, implies_true, not_false_eq_true, not_true_eq_false]
          refine x_wk [vR z, vI m, vI (nl3 : Int), vI ((i + 1 : Nat) : Int), vJ, vJ] (by simp [z_wk]) ?_
          exact hnx
    have h0 := hlo 81 0 lim nl2 (by omega) hlc (by omega)
    refine z_run1 tsX2_best [34] 20 ?_
    simp (maxSteps := 1000000) -implicitDefEqProofs +contextual (disch := omega) only [z_wp_t, z_wp_u, ↓pI_e, ↓pL_e, ↓pO_e, ↓pR_e, ↓p1_I, ↓p1_O, z_gl, z_st1, z_st2, z_nl_I, z_nl_O, z_nl_J, z_nl_L, if_true, if_false, ite_true, ite_false, true_and, and_true, List.mem_cons, List.not_mem_nil, or_false, false_or, or_self, List.length_cons, List.length_nil, InR_t, InL_t, z_ix_t, mI_s1, mI_s2, ↓brT, ↓brF, ↓brT', ↓brF', mL_sI, mR_sI, mK_sI, mS_sI, mI_sL, mL_s1, mL_s2, mR_sL, mK_sL, mS_sL, mI_sR, mL_sR, mR_s1, mR_s2, mK_sR, mS_sR, mA_s1, mA_s2, mL_sA, mR_sA, mK_sA, mS_sA, ix_n, ix_a, ix_m, ix_s, z_sw, z_stop, forall_const, true_implies, false_implies, imp_self, implies_true, not_true_eq_false, not_false_eq_true, ne_eq, eq_self, Option.some.injEq, reduceCtorEq, Nat.reduceAdd, Nat.reduceSub, Nat.reduceMul, Nat.reduceEqDiff, Nat.reduceLT, Nat.reduceLeDiff, Int.reduceAdd, Int.reduceMul, Int.reduceSub, Int.reduceNeg, Int.reduceToNat, Int.reduceLT, Int.reduceLE, Int.reduceEq, ↓reduceIte, List.reverse_cons, Option.toList, List.cons_append, List.nil_append, vI_inj, vL_inj, vO_inj, rI, rL, rO, rV, mI_sQ, mL_sQ, mK_sQ, mS_sQ, mQ_s1, mQ_s2, iL_and, iL_or, iL_xor, iL_shl, iL_ushr, iR_and, iR_or, iR_xor, iR_shl, iR_shr, iR_ushr, iR_cmp, yc0, tlX2_best, tkX2_best, o_aload, o_getI, o_getL, o_goto, o_ic, o_icgt, o_ifeq, o_ifne, o_iinc, o_iload, o_istore, o_lc, o_lcmp, o_lload, o_lret, o_lstore, o_putI]
    try simp +contextual (disch := omega) only [impF, impT, and_true, true_and, implies_true, not_false_eq_true, not_true_eq_false]
    exact h0
