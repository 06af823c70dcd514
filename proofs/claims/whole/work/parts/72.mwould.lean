/-! the reference: wouldChange -/
theorem MA.eqv {g : Nat → Int} {A B : zA} (hm : MA g B) (h1 : ∀ p, p < 8 → aN B p = aN A p) (h2 : ∀ p i, p < 8 → i < aN A p → aV B p i = aV A p i) (h3 : aL B = aL A) (h4 : B.2 = A.2) : MA g A := by
  obtain ⟨a1, a2, a3, a4, a5, a6⟩ := hm
  have eF : aF B = aF A := by unfold aF; rw [h4]
  have eC : aC B = aC A := by unfold aC; rw [h4]
  have eR : aR B = aR A := by unfold aR; rw [h4]
  rw [eF] at a3
  rw [eC] at a5 a6
  rw [eR] at a6
  rw [h3] at a4
  exact ⟨fun p hp => by rw [← h1 p hp]; exact a1 p hp, fun p i hp hi => by rw [← h2 p i hp hi]; exact a2 p i hp (by rw [h1 p hp]; exact hi), a3, a4, a5, a6⟩
theorem fIx_ins {A : zA} {P : Nat} {v : Int} (hA : AOK A) (hP : P < 8) (hf : fIx (aV A P) v (aN A P) 0 = -1) : ∃ k : Nat, fIx (aV (insA A P v) P) v (aN (insA A P v) P) 0 = (k : Int) ∧ k < aN (insA A P v) P ∧ ∀ i, i < aN A P → remF (aV (insA A P v) P) k i = aV A P i := by
  have e1 : aN (insA A P v) P = aN A P + 1 := up_s _ _ _
  have e2 : aV (insA A P v) P = insF (aV A P) (insP (aV A P) v (aN A P)) v := up_s _ _ _
  have hle := insP_le (aV A P) v (aN A P)
  have hne : fIx (aV (insA A P v) P) v (aN (insA A P v) P) 0 ≠ -1 := by
    intro q
    refine fIx_none.mp q (insP (aV A P) v (aN A P)) (by omega) (by omega) ?_
    rw [e2]
    unfold insF
    simp
  obtain ⟨g1, g2, g3⟩ := fIx_some rfl hne
  obtain ⟨k, hk⟩ := Int.eq_ofNat_of_zero_le (a := fIx (aV (insA A P v) P) v (aN (insA A P v) P) 0) (by omega)
  rw [hk] at g1 g2 g3
  rw [Int.toNat_natCast] at g3
  have hd := fIx_none.mp hf
  rw [e2] at g3
  have hkp : k = insP (aV A P) v (aN A P) := by
    by_cases q : k = insP (aV A P) v (aN A P)
    · exact q
    · exfalso
      unfold insF at g3
      by_cases q1 : k < insP (aV A P) v (aN A P)
      · rw [if_pos q1] at g3
        exact hd k (by omega) (by omega) g3
      · rw [if_neg q1, if_neg q] at g3
        exact hd (k - 1) (by omega) (by omega) g3
  refine ⟨k, hk, by omega, fun i hi => ?_⟩
  rw [e2, ← hkp]
  unfold remF insF
  by_cases q : i < k
  · rw [if_pos q, if_pos q]
  · rw [if_neg q, if_neg (by omega), if_neg (by omega), Nat.add_sub_cancel]
theorem MA.ri {g : Nat → Int} {A : zA} {P k : Nat} {v : Int} (hm : MA g (remA (insA A P v) P k)) (hr : ∀ i, i < aN A P → remF (aV (insA A P v) P) k i = aV A P i) : MA g A := by
  have f1 : ∀ p, p ≠ P → aN (insA A P v) p = aN A p := fun p q => up_n _ _ q
  have f2 : ∀ p, p ≠ P → aV (insA A P v) p = aV A p := fun p q => up_n _ _ q
  have e1 : aN (insA A P v) P = aN A P + 1 := up_s _ _ _
  refine hm.eqv (fun p hp => ?_) (fun p i hp hi => ?_) rfl rfl
  · by_cases q : p = P
    · subst q
      have : aN (remA (insA A p v) p k) p = aN (insA A p v) p - 1 := up_s _ _ _
      rw [this, e1, Nat.add_sub_cancel]
    · have : aN (remA (insA A P v) P k) p = aN (insA A P v) p := up_n _ _ q
      rw [this, f1 p q]
  · by_cases q : p = P
    · subst q
      have : aV (remA (insA A p v) p k) p = remF (aV (insA A p v) p) k := up_s _ _ _
      rw [this, hr i hi]
    · have : aV (remA (insA A P v) P k) p = aV (insA A P v) p := up_n _ _ q
      rw [this, f2 p q]
theorem srt_lt {f : Nat → Int} {n : Nat} (h : ∀ i, i + 1 < n → f i < f (i + 1)) : ∀ (d i : Nat), i + d + 1 < n → f i < f (i + d + 1)
  | 0, i, q => h i q
  | d + 1, i, q => by
    have h1 := srt_lt h d i (by omega)
    have h2 := h (i + d + 1) (by omega)
    rw [show i + (d + 1) + 1 = i + d + 1 + 1 by omega]
    omega
theorem srt_l {f : Nat → Int} {n : Nat} (h : ∀ i, i + 1 < n → f i < f (i + 1)) {i j : Nat} (hij : i < j) (hj : j < n) : f i < f j := by
  have := srt_lt h (j - i - 1) i (by omega)
  rw [show i + (j - i - 1) + 1 = j by omega] at this
  exact this
theorem rem_srt {A : zA} {P j : Nat} (hA : AOK A) (hP : P < 8) (hj : j < aN A P) : fIx (aV (remA A P j) P) (aV A P j) (aN (remA A P j) P) 0 = -1 ∧ insP (aV (remA A P j) P) (aV A P j) (aN (remA A P j) P) = j := by
  have e1 : aN (remA A P j) P = aN A P - 1 := up_s _ _ _
  have e2 : aV (remA A P j) P = remF (aV A P) j := up_s _ _ _
  have hs := hA.2.2.1 P
  have hlt := fun {i k : Nat} (q1 : i < k) (q2 : k < aN A P) => srt_l (fun i hi => hs i hP hi) q1 q2
  have hne : fIx (aV (remA A P j) P) (aV A P j) (aN (remA A P j) P) 0 = -1 := by
    refine fIx_none.mpr (fun i _ hi => ?_)
    rw [e2]
    unfold remF
    split
    · have := hlt (i := i) (k := j) (by omega) hj
      omega
    · have := hlt (i := j) (k := i + 1) (by omega) (by omega)
      omega
  refine ⟨hne, ?_⟩
  have hs2 := (remA_ok hA hP hj).2.2.1 P
  obtain ⟨p1, p2⟩ := insP_spec (f := aV (remA A P j) P) (v := aV A P j) (n := aN (remA A P j) P) (fun i hi => hs2 i hP hi) (fun i hi => fIx_none.mp hne i (by omega) (by omega))
  have hle := insP_le (aV (remA A P j) P) (aV A P j) (aN (remA A P j) P)
  generalize insP (aV (remA A P j) P) (aV A P j) (aN (remA A P j) P) = k at *
  rw [e2] at p1 p2
  rw [e1] at p2 hle
  rcases Nat.lt_trichotomy k j with q | q | q
  · exfalso
    have a := p2 k (by omega) (by omega)
    have b := hlt (i := k) (k := j) q hj
    unfold remF at a
    rw [if_pos q] at a
    omega
  · exact q
  · exfalso
    have a := p1 j q
    have b := hlt (i := j) (k := j + 1) (by omega) (by omega)
    unfold remF at a
    rw [if_neg (by omega)] at a
    omega
theorem MA.ir {g : Nat → Int} {A : zA} {P j : Nat} (hA : AOK A) (hP : P < 8) (hj : j < aN A P) (hm : MA g (insA (remA A P j) P (aV A P j))) : MA g A := by
  have f1 : ∀ p, p ≠ P → aN (remA A P j) p = aN A p := fun p q => up_n _ _ q
  have f2 : ∀ p, p ≠ P → aV (remA A P j) p = aV A p := fun p q => up_n _ _ q
  have e1 : aN (remA A P j) P = aN A P - 1 := up_s _ _ _
  have e2 : aV (remA A P j) P = remF (aV A P) j := up_s _ _ _
  obtain ⟨-, hpos⟩ := rem_srt hA hP hj
  generalize hv : aV A P j = v at *
  refine hm.eqv (fun p hp => ?_) (fun p i hp hi => ?_) rfl rfl
  · by_cases q : p = P
    · subst q
      have : aN (insA (remA A p j) p v) p = aN (remA A p j) p + 1 := up_s _ _ _
      rw [this, e1]
      omega
    · have : aN (insA (remA A P j) P v) p = aN (remA A P j) p := up_n _ _ q
      rw [this, f1 p q]
  · by_cases q : p = P
    · subst q
      have : aV (insA (remA A p j) p v) p = insF (aV (remA A p j) p) (insP (aV (remA A p j) p) v (aN (remA A p j) p)) v := up_s _ _ _
      rw [this, hpos, e2]
      unfold insF remF
      by_cases q1 : i < j
      · rw [if_pos q1, if_pos q1]
      · rw [if_neg q1]
        by_cases q2 : i = j
        · rw [if_pos q2, q2, hv]
        · rw [if_neg q2, if_neg (by omega), show i - 1 + 1 = i by omega]
    · have : aV (insA (remA A P j) P v) p = aV (remA A P j) p := up_n _ _ q
      rw [this, f2 p q]
def WX (h h' : zH) : Prop := Fr (fun c => c = 93 ∨ c = 94 ∨ (97 ≤ c ∧ c ≤ 108)) h h' ∧ gR h' = gR h ∧ gI h' 93 2 = gI h 93 2 ∧ gI h' 93 4 = gI h 93 4
theorem WX.tr {h h1 h2 : zH} (a : WX h h1) (b : WX h1 h2) : WX h h2 := ⟨a.1.tr' b.1 (fun _ q => q) (fun _ q => q), b.2.1.trans a.2.1, b.2.2.1.trans a.2.2.1, b.2.2.2.trans a.2.2.2⟩
theorem WX.wk {h h' : zH} (a : WK h h') : WX h h' := ⟨a.1.mono (fun c q => by omega), a.2.1, a.2.2.1, a.2.2.2.1⟩
theorem WX.w {h h' : zH} (f : Fr (fun c => c = 94) h h') (hR : gR h' = gR h) : WX h h' := ⟨f.mono (fun c q => by omega), hR, by rw [f.I (by omega)], by rw [f.I (by omega)]⟩
theorem MI.wx {h h' : zH} {s : zS} (hM : MI h s) (f : WX h h') (hm : MA (gI h' 94) (sW s)) : MI h' s ∧ MF h h' := by
  obtain ⟨a1, a2, a3, a4, a5⟩ := hM
  refine ⟨⟨a1.of f.1.K f.2.1, hm, a3.o f.2.2.1 (f.1.I (by omega)), ?_, a5⟩, MF.of f.1 f.2.1 (fun c q => by omega)⟩
  obtain ⟨b1, b2, b3, b4⟩ := a4
  exact ⟨f.2.2.2.trans b1, b2, by rw [f.1.I (by omega)]; exact b3, b4⟩
/-- back to what was: behind a version that was put -/
theorem mw_bi (l : Launch) (G : zG) (h : zH) (QQ : Option zV → zH → Prop) (s : zS) (P : Nat) (v n q : Int) (hM : MI h s) (hP : P < 8) (hv : 0 ≤ v ∧ v ≤ 999) (hf : fIx (aV (sW s) P) v (aN (sW s) P) 0 = -1) (h4 : aN (sW s) P < 4) (hQ : mQ h (n, s) = QQ) (lv : Nat) (hlv : 6 ≤ lv) (h3 : zH) (hW : WX h h3) (hm : MA (gI h3 94) (insA (sW s) P v)) : z_X l G mtX8_wouldChange lv 0 0 (QQ) 0 0 (h3) 175 [vR 93, vI (P : Int), vI v, vI (-1), vI n, vI q] [] := by
  have hA := hM.2.2.2.2
  have hS3 := hM.1.of hW.1.K hW.2.1
  have c0 := hS3.1
  have hB := insA_ok hA hP hv h4 hf
  obtain ⟨k, hk, hkl, hr⟩ := fIx_ins hA hP hf
  have hk4 := hB.1 P hP
  have hix := sm_indexOf l G h3 P v (insA (sW s) P v) hS3 hm hB hP (by unfold InR; omega) 1 (by omega)
  rw [hk] at hix
  refine z_run1 tsX8_wouldChange [] 20 ?_
  simp (maxSteps := 1000000) -implicitDefEqProofs +contextual (disch := omega) only [z_wp_t, z_wp_u, ↓pI_e, ↓pL_e, ↓pO_e, ↓pR_e, ↓p1_I, ↓p1_O, z_gl, z_st1, z_st2, z_nl_I, z_nl_O, z_nl_J, z_nl_L, if_true, if_false, ite_true, ite_false, true_and, and_true, List.mem_cons, List.not_mem_nil, or_false, false_or, or_self, List.length_cons, List.length_nil, InR_t, InL_t, z_ix_t, mI_s1, mI_s2, ↓brT, ↓brF, ↓brT', ↓brF', mL_sI, mR_sI, mK_sI, mS_sI, mI_sL, mL_s1, mL_s2, mR_sL, mK_sL, mS_sL, mI_sR, mL_sR, mR_s1, mR_s2, mK_sR, mS_sR, mA_s1, mA_s2, mL_sA, mR_sA, mK_sA, mS_sA, ix_n, ix_a, ix_m, ix_s, z_sw, z_stop, forall_const, true_implies, false_implies, imp_self, implies_true, not_true_eq_false, not_false_eq_true, ne_eq, eq_self, Option.some.injEq, reduceCtorEq, Nat.reduceAdd, Nat.reduceSub, Nat.reduceMul, Nat.reduceEqDiff, Nat.reduceLT, Nat.reduceLeDiff, Int.reduceAdd, Int.reduceMul, Int.reduceSub, Int.reduceNeg, Int.reduceToNat, Int.reduceLT, Int.reduceLE, Int.reduceEq, ↓reduceIte, List.reverse_cons, Option.toList, List.cons_append, List.nil_append, vI_inj, vL_inj, vO_inj, rI, rL, rO, rV, mI_sQ, mL_sQ, mK_sQ, mS_sQ, mQ_s1, mQ_s2, iL_and, iL_or, iL_xor, iL_shl, iL_ushr, iR_and, iR_or, iR_xor, iR_shl, iR_shr, iR_ushr, iR_cmp, yc0, tlX8_wouldChange, tkX8_wouldChange, o_aload, o_getR, o_goto, o_iadd, o_iald, o_iast, o_ic, o_iceq, o_icge, o_icne, o_ifeq, o_ifne, o_iinc, o_iload, o_iret, o_istore]
  try simp +contextual (disch := omega) only [impF, impT, and_true, true_and, implies_true, not_false_eq_true, not_true_eq_false]
  refine x_callV (by decide +kernel) cv_X8_71 (hix) c0 (by omega) rfl (by omega) (by omega) rfl (Nat.le_of_ble_eq_true rfl) ?_
  rintro r h' ⟨rfl, hE⟩
  subst h'
  refine z_run1 tsX8_wouldChange [] 20 ?_
  simp (maxSteps := 1000000) -implicitDefEqProofs +contextual (disch := omega) only [z_wp_t, z_wp_u, ↓pI_e, ↓pL_e, ↓pO_e, ↓pR_e, ↓p1_I, ↓p1_O, z_gl, z_st1, z_st2, z_nl_I, z_nl_O, z_nl_J, z_nl_L, if_true, if_false, ite_true, ite_false, true_and, and_true, List.mem_cons, List.not_mem_nil, or_false, false_or, or_self, List.length_cons, List.length_nil, InR_t, InL_t, z_ix_t, mI_s1, mI_s2, ↓brT, ↓brF, ↓brT', ↓brF', mL_sI, mR_sI, mK_sI, mS_sI, mI_sL, mL_s1, mL_s2, mR_sL, mK_sL, mS_sL, mI_sR, mL_sR, mR_s1, mR_s2, mK_sR, mS_sR, mA_s1, mA_s2, mL_sA, mR_sA, mK_sA, mS_sA, ix_n, ix_a, ix_m, ix_s, z_sw, z_stop, forall_const, true_implies, false_implies, imp_self, implies_true, not_true_eq_false, not_false_eq_true, ne_eq, eq_self, Option.some.injEq, reduceCtorEq, Nat.reduceAdd, Nat.reduceSub, Nat.reduceMul, Nat.reduceEqDiff, Nat.reduceLT, Nat.reduceLeDiff, Int.reduceAdd, Int.reduceMul, Int.reduceSub, Int.reduceNeg, Int.reduceToNat, Int.reduceLT, Int.reduceLE, Int.reduceEq, ↓reduceIte, List.reverse_cons, Option.toList, List.cons_append, List.nil_append, vI_inj, vL_inj, vO_inj, rI, rL, rO, rV, mI_sQ, mL_sQ, mK_sQ, mS_sQ, mQ_s1, mQ_s2, iL_and, iL_or, iL_xor, iL_shl, iL_ushr, iR_and, iR_or, iR_xor, iR_shl, iR_shr, iR_ushr, iR_cmp, yc0, tlX8_wouldChange, tkX8_wouldChange, o_aload, o_getR, o_goto, o_iadd, o_iald, o_iast, o_ic, o_iceq, o_icge, o_icne, o_ifeq, o_ifne, o_iinc, o_iload, o_iret, o_istore]
  try simp +contextual (disch := omega) only [impF, impT, and_true, true_and, implies_true, not_false_eq_true, not_true_eq_false]
  refine x_callV (by decide +kernel) cv_X8_82 (sm_takes l G h3 P k (insA (sW s) P v) hS3 hm hB hP hkl 1 (by omega)) c0 (by omega) rfl (by omega) (by omega) rfl (Nat.le_of_ble_eq_true rfl) ?_
  rintro r h5 ⟨rfl, f5, hR5, hm5⟩
  obtain ⟨g1, g2⟩ := hM.wx (hW.tr (WX.w f5 hR5)) (hm5.ri hr)
  refine z_run1 tsX8_wouldChange [] 20 ?_
  simp (maxSteps := 1000000) -implicitDefEqProofs +contextual (disch := omega) only [z_wp_t, z_wp_u, ↓pI_e, ↓pL_e, ↓pO_e, ↓pR_e, ↓p1_I, ↓p1_O, z_gl, z_st1, z_st2, z_nl_I, z_nl_O, z_nl_J, z_nl_L, if_true, if_false, ite_true, ite_false, true_and, and_true, List.mem_cons, List.not_mem_nil, or_false, false_or, or_self, List.length_cons, List.length_nil, InR_t, InL_t, z_ix_t, mI_s1, mI_s2, ↓brT, ↓brF, ↓brT', ↓brF', mL_sI, mR_sI, mK_sI, mS_sI, mI_sL, mL_s1, mL_s2, mR_sL, mK_sL, mS_sL, mI_sR, mL_sR, mR_s1, mR_s2, mK_sR, mS_sR, mA_s1, mA_s2, mL_sA, mR_sA, mK_sA, mS_sA, ix_n, ix_a, ix_m, ix_s, z_sw, z_stop, forall_const, true_implies, false_implies, imp_self, implies_true, not_true_eq_false, not_false_eq_true, ne_eq, eq_self, Option.some.injEq, reduceCtorEq, Nat.reduceAdd, Nat.reduceSub, Nat.reduceMul, Nat.reduceEqDiff, Nat.reduceLT, Nat.reduceLeDiff, Int.reduceAdd, Int.reduceMul, Int.reduceSub, Int.reduceNeg, Int.reduceToNat, Int.reduceLT, Int.reduceLE, Int.reduceEq, ↓reduceIte, List.reverse_cons, Option.toList, List.cons_append, List.nil_append, vI_inj, vL_inj, vO_inj, rI, rL, rO, rV, mI_sQ, mL_sQ, mK_sQ, mS_sQ, mQ_s1, mQ_s2, iL_and, iL_or, iL_xor, iL_shl, iL_ushr, iR_and, iR_or, iR_xor, iR_shl, iR_shr, iR_ushr, iR_cmp, yc0, tlX8_wouldChange, tkX8_wouldChange, o_aload, o_getR, o_goto, o_iadd, o_iald, o_iast, o_ic, o_iceq, o_icge, o_icne, o_ifeq, o_ifne, o_iinc, o_iload, o_iret, o_istore]
  try simp +contextual (disch := omega) only [impF, impT, and_true, true_and, implies_true, not_false_eq_true, not_true_eq_false]
  rw [← hQ]
  exact ⟨rfl, g1, g2⟩
theorem mw_bt (l : Launch) (G : zG) (h : zH) (QQ : Option zV → zH → Prop) (s : zS) (P j : Nat) (v n q : Int) (hM : MI h s) (hP : P < 8) (hv : 0 ≤ v ∧ v ≤ 999) (hj : j < aN (sW s) P) (hjv : aV (sW s) P j = v) (hQ : mQ h (n, s) = QQ) (lv : Nat) (hlv : 6 ≤ lv) (h3 : zH) (hW : WX h h3) (hm : MA (gI h3 94) (remA (sW s) P j)) : z_X l G mtX8_wouldChange lv 0 0 (QQ) 0 0 (h3) 175 [vR 93, vI (P : Int), vI v, vI (j : Int), vI n, vI q] [] := by
  have hA := hM.2.2.2.2
  have hS3 := hM.1.of hW.1.K hW.2.1
  have c0 := hS3.1
  have hB := remA_ok hA hP hj
  have h4 := hA.1 P hP
  have e1 : aN (remA (sW s) P j) P = aN (sW s) P - 1 := up_s _ _ _
  refine z_run1 tsX8_wouldChange [] 20 ?_
  simp (maxSteps := 1000000) -implicitDefEqProofs +contextual (disch := omega) only [z_wp_t, z_wp_u, ↓pI_e, ↓pL_e, ↓pO_e, ↓pR_e, ↓p1_I, ↓p1_O, z_gl, z_st1, z_st2, z_nl_I, z_nl_O, z_nl_J, z_nl_L, if_true, if_false, ite_true, ite_false, true_and, and_true, List.mem_cons, List.not_mem_nil, or_false, false_or, or_self, List.length_cons, List.length_nil, InR_t, InL_t, z_ix_t, mI_s1, mI_s2, ↓brT, ↓brF, ↓brT', ↓brF', mL_sI, mR_sI, mK_sI, mS_sI, mI_sL, mL_s1, mL_s2, mR_sL, mK_sL, mS_sL, mI_sR, mL_sR, mR_s1, mR_s2, mK_sR, mS_sR, mA_s1, mA_s2, mL_sA, mR_sA, mK_sA, mS_sA, ix_n, ix_a, ix_m, ix_s, z_sw, z_stop, forall_const, true_implies, false_implies, imp_self, implies_true, not_true_eq_false, not_false_eq_true, ne_eq, eq_self, Option.some.injEq, reduceCtorEq, Nat.reduceAdd, Nat.reduceSub, Nat.reduceMul, Nat.reduceEqDiff, Nat.reduceLT, Nat.reduceLeDiff, Int.reduceAdd, Int.reduceMul, Int.reduceSub, Int.reduceNeg, Int.reduceToNat, Int.reduceLT, Int.reduceLE, Int.reduceEq, ↓reduceIte, List.reverse_cons, Option.toList, List.cons_append, List.nil_append, vI_inj, vL_inj, vO_inj, rI, rL, rO, rV, mI_sQ, mL_sQ, mK_sQ, mS_sQ, mQ_s1, mQ_s2, iL_and, iL_or, iL_xor, iL_shl, iL_ushr, iR_and, iR_or, iR_xor, iR_shl, iR_shr, iR_ushr, iR_cmp, yc0, tlX8_wouldChange, tkX8_wouldChange, o_aload, o_getR, o_goto, o_iadd, o_iald, o_iast, o_ic, o_iceq, o_icge, o_icne, o_ifeq, o_ifne, o_iinc, o_iload, o_iret, o_istore]
  try simp +contextual (disch := omega) only [impF, impT, and_true, true_and, implies_true, not_false_eq_true, not_true_eq_false]
  refine x_callV (by decide +kernel) cv_X8_78 (sm_puts l G h3 P v (remA (sW s) P j) hS3 hm hB hP (by unfold InR; omega) (by omega) 1 (by omega)) c0 (by omega) rfl (by omega) (by omega) rfl (Nat.le_of_ble_eq_true rfl) ?_
  rintro r h5 ⟨rfl, f5, hR5, hm5⟩
  rw [← hjv] at hm5
  obtain ⟨g1, g2⟩ := hM.wx (hW.tr (WX.w f5 hR5)) (hm5.ir hA hP hj)
  refine z_run1 tsX8_wouldChange [] 20 ?_
  simp (maxSteps := 1000000) -implicitDefEqProofs +contextual (disch := omega) only [z_wp_t, z_wp_u, ↓pI_e, ↓pL_e, ↓pO_e, ↓pR_e, ↓p1_I, ↓p1_O, z_gl, z_st1, z_st2, z_nl_I, z_nl_O, z_nl_J, z_nl_L, if_true, if_false, ite_true, ite_false, true_and, and_true, List.mem_cons, List.not_mem_nil, or_false, false_or, or_self, List.length_cons, List.length_nil, InR_t, InL_t, z_ix_t, mI_s1, mI_s2, ↓brT, ↓brF, ↓brT', ↓brF', mL_sI, mR_sI, mK_sI, mS_sI, mI_sL, mL_s1, mL_s2, mR_sL, mK_sL, mS_sL, mI_sR, mL_sR, mR_s1, mR_s2, mK_sR, mS_sR, mA_s1, mA_s2, mL_sA, mR_sA, mK_sA, mS_sA, ix_n, ix_a, ix_m, ix_s, z_sw, z_stop, forall_const, true_implies, false_implies, imp_self, implies_true, not_true_eq_false, not_false_eq_true, ne_eq, eq_self, Option.some.injEq, reduceCtorEq, Nat.reduceAdd, Nat.reduceSub, Nat.reduceMul, Nat.reduceEqDiff, Nat.reduceLT, Nat.reduceLeDiff, Int.reduceAdd, Int.reduceMul, Int.reduceSub, Int.reduceNeg, Int.reduceToNat, Int.reduceLT, Int.reduceLE, Int.reduceEq, ↓reduceIte, List.reverse_cons, Option.toList, List.cons_append, List.nil_append, vI_inj, vL_inj, vO_inj, rI, rL, rO, rV, mI_sQ, mL_sQ, mK_sQ, mS_sQ, mQ_s1, mQ_s2, iL_and, iL_or, iL_xor, iL_shl, iL_ushr, iR_and, iR_or, iR_xor, iR_shl, iR_shr, iR_ushr, iR_cmp, yc0, tlX8_wouldChange, tkX8_wouldChange, o_aload, o_getR, o_goto, o_iadd, o_iald, o_iast, o_ic, o_iceq, o_icge, o_icne, o_ifeq, o_ifne, o_iinc, o_iload, o_iret, o_istore]
  try simp +contextual (disch := omega) only [impF, impT, and_true, true_and, implies_true, not_false_eq_true, not_true_eq_false]
  rw [← hQ]
  exact ⟨rfl, g1, g2⟩
theorem mw_cnt (l : Launch) (G : zG) (QQ : Option zV → zH → Prop) (P v i : Int) (A B : zA) (t u : Nat → Nat) (hA : AOK A) (ht : ∀ p, p < 8 → t p ≤ aN A p) (hB : AOK B) (hu : ∀ p, p < 8 → u p ≤ aN B p) (lv : Nat) (hlv : 6 ≤ lv) (h3 : zH) (hS : ShM h3) (hm : MA (gI h3 94) B) (hE : EnO h3 105 8 u) (hO : ∀ q, q < 8 → gI h3 108 q = verA A q (t q)) (K : z_X l G mtX8_wouldChange lv 0 0 (QQ) 0 0 (h3) 175 [vR 93, vI P, vI v, vI i, vI (dfN A B t u : Int), vI ((8 : Nat) : Int)] []) : ∀ (d p : Nat), p + d = 8 → z_X l G mtX8_wouldChange lv 0 0 (QQ) 0 0 (h3) 123 [vR 93, vI P, vI v, vI i, vI (cnt (fun p => decide (verA A p (t p) ≠ verA B p (u p))) p : Int), vI p] [] := by
  have c0 := hS.1
  have c105 := hS.2.2.1.2.2.2.1
  have c108 := hS.2.2.1.2.2.2.2.2.2
  have s15 := hS.2.2.2.2.2.2.2.1
  have s20 := hS.2.2.2.2.2.2.2.2.2.2
  intro d
  induction d with
  | zero =>
    intro p hp
    obtain rfl : p = 8 := by omega
    unfold dfN at K
    generalize cnt (fun p => decide (verA A p (t p) ≠ verA B p (u p))) 8 = y at *
    refine z_run1 tsX8_wouldChange [175] 20 ?_
    simp (maxSteps := 1000000) -implicitDefEqProofs +contextual (disch := omega) only [z_wp_t, z_wp_u, ↓pI_e, ↓pL_e, ↓pO_e, ↓pR_e, ↓p1_I, ↓p1_O, z_gl, z_st1, z_st2, z_nl_I, z_nl_O, z_nl_J, z_nl_L, if_true, if_false, ite_true, ite_false, true_and, and_true, List.mem_cons, List.not_mem_nil, or_false, false_or, or_self, List.length_cons, List.length_nil, InR_t, InL_t, z_ix_t, mI_s1, mI_s2, ↓brT, ↓brF, ↓brT', ↓brF', mL_sI, mR_sI, mK_sI, mS_sI, mI_sL, mL_s1, mL_s2, mR_sL, mK_sL, mS_sL, mI_sR, mL_sR, mR_s1, mR_s2, mK_sR, mS_sR, mA_s1, mA_s2, mL_sA, mR_sA, mK_sA, mS_sA, ix_n, ix_a, ix_m, ix_s, z_sw, z_stop, forall_const, true_implies, false_implies, imp_self, implies_true, not_true_eq_false, not_false_eq_true, ne_eq, eq_self, Option.some.injEq, reduceCtorEq, Nat.reduceAdd, Nat.reduceSub, Nat.reduceMul, Nat.reduceEqDiff, Nat.reduceLT, Nat.reduceLeDiff, Int.reduceAdd, Int.reduceMul, Int.reduceSub, Int.reduceNeg, Int.reduceToNat, Int.reduceLT, Int.reduceLE, Int.reduceEq, ↓reduceIte, List.reverse_cons, Option.toList, List.cons_append, List.nil_append, vI_inj, vL_inj, vO_inj, rI, rL, rO, rV, mI_sQ, mL_sQ, mK_sQ, mS_sQ, mQ_s1, mQ_s2, iL_and, iL_or, iL_xor, iL_shl, iL_ushr, iR_and, iR_or, iR_xor, iR_shl, iR_shr, iR_ushr, iR_cmp, yc0, tlX8_wouldChange, tkX8_wouldChange, o_aload, o_getR, o_goto, o_iadd, o_iald, o_iast, o_ic, o_iceq, o_icge, o_icne, o_ifeq, o_ifne, o_iinc, o_iload, o_iret, o_istore]
    try simp +contextual (disch := omega) only [impF, impT, and_true, true_and, implies_true, not_false_eq_true, not_true_eq_false]
    exact K
  | succ d ih =>
    intro p hp
    have hcl := cnt_le (fun p => decide (verA A p (t p) ≠ verA B p (u p))) p
    have hnx := ih (p + 1) (by omega)
    have ep := hE p (by omega)
    have eo := hO p (by omega)
    have hr1 := ver_R hA (show p < 8 by omega) (ht p (by omega))
    have hr2 := ver_R hB (show p < 8 by omega) (hu p (by omega))
    have hvo := sm_versionOf l G h3 p (u p) B hS hm hB (by omega) (hu p (by omega)) 1 (by omega)
    have hsame : verA A p (t p) = verA B p (u p) → cnt (fun p => decide (verA A p (t p) ≠ verA B p (u p))) (p + 1) = cnt (fun p => decide (verA A p (t p) ≠ verA B p (u p))) p := fun q => by simp [cnt, q]
    have hdiff : verA A p (t p) ≠ verA B p (u p) → cnt (fun p => decide (verA A p (t p) ≠ verA B p (u p))) (p + 1) = cnt (fun p => decide (verA A p (t p) ≠ verA B p (u p))) p + 1 := fun q => by simp [cnt, q]
    clear ih K
    generalize cnt (fun p => decide (verA A p (t p) ≠ verA B p (u p))) (p + 1) = y' at *
    generalize cnt (fun p => decide (verA A p (t p) ≠ verA B p (u p))) p = y at *
    generalize verA A p (t p) = y1 at *
    generalize verA B p (u p) = y2 at *
    refine z_run1 tsX8_wouldChange [] 20 ?_
    simp (maxSteps := 1000000) -implicitDefEqProofs +contextual (disch := omega) only [z_wp_t, z_wp_u, ↓pI_e, ↓pL_e, ↓pO_e, ↓pR_e, ↓p1_I, ↓p1_O, z_gl, z_st1, z_st2, z_nl_I, z_nl_O, z_nl_J, z_nl_L, if_true, if_false, ite_true, ite_false, true_and, and_true, List.mem_cons, List.not_mem_nil, or_false, false_or, or_self, List.length_cons, List.length_nil, InR_t, InL_t, z_ix_t, mI_s1, mI_s2, ↓brT, ↓brF, ↓brT', ↓brF', mL_sI, mR_sI, mK_sI, mS_sI, mI_sL, mL_s1, mL_s2, mR_sL, mK_sL, mS_sL, mI_sR, mL_sR, mR_s1, mR_s2, mK_sR, mS_sR, mA_s1, mA_s2, mL_sA, mR_sA, mK_sA, mS_sA, ix_n, ix_a, ix_m, ix_s, z_sw, z_stop, forall_const, true_implies, false_implies, imp_self, implies_true, not_true_eq_false, not_false_eq_true, ne_eq, eq_self, Option.some.injEq, reduceCtorEq, Nat.reduceAdd, Nat.reduceSub, Nat.reduceMul, Nat.reduceEqDiff, Nat.reduceLT, Nat.reduceLeDiff, Int.reduceAdd, Int.reduceMul, Int.reduceSub, Int.reduceNeg, Int.reduceToNat, Int.reduceLT, Int.reduceLE, Int.reduceEq, ↓reduceIte, List.reverse_cons, Option.toList, List.cons_append, List.nil_append, vI_inj, vL_inj, vO_inj, rI, rL, rO, rV, mI_sQ, mL_sQ, mK_sQ, mS_sQ, mQ_s1, mQ_s2, iL_and, iL_or, iL_xor, iL_shl, iL_ushr, iR_and, iR_or, iR_xor, iR_shl, iR_shr, iR_ushr, iR_cmp, yc0, tlX8_wouldChange, tkX8_wouldChange, o_aload, o_getR, o_goto, o_iadd, o_iald, o_iast, o_ic, o_iceq, o_icge, o_icne, o_ifeq, o_ifne, o_iinc, o_iload, o_iret, o_istore, c0, c105, s15, ep]
    try simp +contextual (disch := omega) only [impF, impT, and_true, true_and, implies_true, not_false_eq_true, not_true_eq_false]
    refine x_callV (by decide +kernel) cv_X8_159 (hvo) c0 (by omega) rfl (by omega) (by omega) rfl (Nat.le_of_ble_eq_true rfl) ?_
    rintro r h' ⟨rfl, hE'⟩
    subst h'
    by_cases q : y1 = y2
    · have e := hsame q
      subst q
      subst e
      clear hsame hdiff
      refine z_run1 tsX8_wouldChange [123] 20 ?_
      simp (maxSteps := 1000000) -implicitDefEqProofs +contextual (disch := omega) only [z_wp_t, z_wp_u, ↓pI_e, ↓pL_e, ↓pO_e, ↓pR_e, ↓p1_I, ↓p1_O, z_gl, z_st1, z_st2, z_nl_I, z_nl_O, z_nl_J, z_nl_L, if_true, if_false, ite_true, ite_false, true_and, and_true, List.mem_cons, List.not_mem_nil, or_false, false_or, or_self, List.length_cons, List.length_nil, InR_t, InL_t, z_ix_t, mI_s1, mI_s2, ↓brT, ↓brF, ↓brT', ↓brF', mL_sI, mR_sI, mK_sI, mS_sI, mI_sL, mL_s1, mL_s2, mR_sL, mK_sL, mS_sL, mI_sR, mL_sR, mR_s1, mR_s2, mK_sR, mS_sR, mA_s1, mA_s2, mL_sA, mR_sA, mK_sA, mS_sA, ix_n, ix_a, ix_m, ix_s, z_sw, z_stop, forall_const, true_implies, false_implies, imp_self, implies_true, not_true_eq_false, not_false_eq_true, ne_eq, eq_self, Option.some.injEq, reduceCtorEq, Nat.reduceAdd, Nat.reduceSub, Nat.reduceMul, Nat.reduceEqDiff, Nat.reduceLT, Nat.reduceLeDiff, Int.reduceAdd, Int.reduceMul, Int.reduceSub, Int.reduceNeg, Int.reduceToNat, Int.reduceLT, Int.reduceLE, Int.reduceEq, ↓reduceIte, List.reverse_cons, Option.toList, List.cons_append, List.nil_append, vI_inj, vL_inj, vO_inj, rI, rL, rO, rV, mI_sQ, mL_sQ, mK_sQ, mS_sQ, mQ_s1, mQ_s2, iL_and, iL_or, iL_xor, iL_shl, iL_ushr, iR_and, iR_or, iR_xor, iR_shl, iR_shr, iR_ushr, iR_cmp, yc0, tlX8_wouldChange, tkX8_wouldChange, o_aload, o_getR, o_goto, o_iadd, o_iald, o_iast, o_ic, o_iceq, o_icge, o_icne, o_ifeq, o_ifne, o_iinc, o_iload, o_iret, o_istore, c0, c108, s20, eo]
      try simp +contextual (disch := omega) only [impF, impT, and_true, true_and, implies_true, not_false_eq_true, not_true_eq_false]
      exact hnx
    · have e := hdiff q
      subst e
      clear hsame hdiff
      have q' : y2 ≠ y1 := fun e => q e.symm
      refine z_run1 tsX8_wouldChange [123] 20 ?_
      simp (maxSteps := 1000000) -implicitDefEqProofs +contextual (disch := omega) only [z_wp_t, z_wp_u, ↓pI_e, ↓pL_e, ↓pO_e, ↓pR_e, ↓p1_I, ↓p1_O, z_gl, z_st1, z_st2, z_nl_I, z_nl_O, z_nl_J, z_nl_L, if_true, if_false, ite_true, ite_false, true_and, and_true, List.mem_cons, List.not_mem_nil, or_false, false_or, or_self, List.length_cons, List.length_nil, InR_t, InL_t, z_ix_t, mI_s1, mI_s2, ↓brT, ↓brF, ↓brT', ↓brF', mL_sI, mR_sI, mK_sI, mS_sI, mI_sL, mL_s1, mL_s2, mR_sL, mK_sL, mS_sL, mI_sR, mL_sR, mR_s1, mR_s2, mK_sR, mS_sR, mA_s1, mA_s2, mL_sA, mR_sA, mK_sA, mS_sA, ix_n, ix_a, ix_m, ix_s, z_sw, z_stop, forall_const, true_implies, false_implies, imp_self, implies_true, not_true_eq_false, not_false_eq_true, ne_eq, eq_self, Option.some.injEq, reduceCtorEq, Nat.reduceAdd, Nat.reduceSub, Nat.reduceMul, Nat.reduceEqDiff, Nat.reduceLT, Nat.reduceLeDiff, Int.reduceAdd, Int.reduceMul, Int.reduceSub, Int.reduceNeg, Int.reduceToNat, Int.reduceLT, Int.reduceLE, Int.reduceEq, ↓reduceIte, List.reverse_cons, Option.toList, List.cons_append, List.nil_append, vI_inj, vL_inj, vO_inj, rI, rL, rO, rV, mI_sQ, mL_sQ, mK_sQ, mS_sQ, mQ_s1, mQ_s2, iL_and, iL_or, iL_xor, iL_shl, iL_ushr, iR_and, iR_or, iR_xor, iR_shl, iR_shr, iR_ushr, iR_cmp, yc0, tlX8_wouldChange, tkX8_wouldChange, o_aload, o_getR, o_goto, o_iadd, o_iald, o_iast, o_ic, o_iceq, o_icge, o_icne, o_ifeq, o_ifne, o_iinc, o_iload, o_iret, o_istore, c0, c108, s20, eo]
      try simp +contextual (disch := omega) only [impF, impT, and_true, true_and, implies_true, not_false_eq_true, not_true_eq_false]
      exact hnx
theorem mw_rest (l : Launch) (G : zG) (h : zH) (QQ : Option zV → zH → Prop) (s : zS) (P v i : Int) (B : zA) (t : Nat → Nat) (hM : MI h s) (hB : AOK B) (ht : ∀ p, p < 8 → t p ≤ aN (sW s) p) (hQ : mQ h (match bestA B with
    | none => -1
    | some u => (dfN (sW s) B t u : Int), s) = QQ) (lv : Nat) (hlv : 6 ≤ lv) (K : ∀ (h3 : zH) (n q : Int), mQ h (n, s) = QQ → WX h h3 → MA (gI h3 94) B → z_X l G mtX8_wouldChange lv 0 0 (QQ) 0 0 (h3) 175 [vR 93, vI P, vI v, vI i, vI n, vI q] []) (h2 : zH) (hW : WX h h2) (hm : MA (gI h2 94) B) (hO : ∀ q, q < 8 → gI h2 108 q = verA (sW s) q (t q)) : z_X l G mtX8_wouldChange lv 0 0 (QQ) 0 0 (h2) 106 [vR 93, vI P, vI v, vI i, vJ, vJ] [] := by
  have hS2 := hM.1.of hW.1.K hW.2.1
  have c0 := hS2.1
  refine z_run1 tsX8_wouldChange [] 20 ?_
  simp (maxSteps := 1000000) -implicitDefEqProofs +contextual (disch := omega) only [z_wp_t, z_wp_u, ↓pI_e, ↓pL_e, ↓pO_e, ↓pR_e, ↓p1_I, ↓p1_O, z_gl, z_st1, z_st2, z_nl_I, z_nl_O, z_nl_J, z_nl_L, if_true, if_false, ite_true, ite_false, true_and, and_true, List.mem_cons, List.not_mem_nil, or_false, false_or, or_self, List.length_cons, List.length_nil, InR_t, InL_t, z_ix_t, mI_s1, mI_s2, ↓brT, ↓brF, ↓brT', ↓brF', mL_sI, mR_sI, mK_sI, mS_sI, mI_sL, mL_s1, mL_s2, mR_sL, mK_sL, mS_sL, mI_sR, mL_sR, mR_s1, mR_s2, mK_sR, mS_sR, mA_s1, mA_s2, mL_sA, mR_sA, mK_sA, mS_sA, ix_n, ix_a, ix_m, ix_s, z_sw, z_stop, forall_const, true_implies, false_implies, imp_self, implies_true, not_true_eq_false, not_false_eq_true, ne_eq, eq_self, Option.some.injEq, reduceCtorEq, Nat.reduceAdd, Nat.reduceSub, Nat.reduceMul, Nat.reduceEqDiff, Nat.reduceLT, Nat.reduceLeDiff, Int.reduceAdd, Int.reduceMul, Int.reduceSub, Int.reduceNeg, Int.reduceToNat, Int.reduceLT, Int.reduceLE, Int.reduceEq, ↓reduceIte, List.reverse_cons, Option.toList, List.cons_append, List.nil_append, vI_inj, vL_inj, vO_inj, rI, rL, rO, rV, mI_sQ, mL_sQ, mK_sQ, mS_sQ, mQ_s1, mQ_s2, iL_and, iL_or, iL_xor, iL_shl, iL_ushr, iR_and, iR_or, iR_xor, iR_shl, iR_shr, iR_ushr, iR_cmp, yc0, tlX8_wouldChange, tkX8_wouldChange, o_aload, o_getR, o_goto, o_iadd, o_iald, o_iast, o_ic, o_iceq, o_icge, o_icne, o_ifeq, o_ifne, o_iinc, o_iload, o_iret, o_istore]
  try simp +contextual (disch := omega) only [impF, impT, and_true, true_and, implies_true, not_false_eq_true, not_true_eq_false]
  refine x_callV (by decide +kernel) cv_X8_191 (sm_solves l G h2 B hS2 hm hB 5 (by omega)) c0 (by omega) rfl (by omega) (by omega) rfl (Nat.le_of_ble_eq_true rfl) ?_
  rintro r h3 ⟨rfl, hW3, -, h108, hBs⟩
  have hWX := hW.tr (WX.wk hW3)
  have hm3 : MA (gI h3 94) B := by rw [hW3.1.I (by omega)]; exact hm
  cases hb : bestA B with
  | none =>
    rw [hb] at hQ
    simp only [Option.isSome_none, Bool.false_eq_true, if_false] at hQ ⊢
    have hnx := K h3 (-1) 0 hQ hWX hm3
    clear K hBs
    refine z_run1 tsX8_wouldChange [175] 20 ?_
    simp (maxSteps := 1000000) -implicitDefEqProofs +contextual (disch := omega) only [z_wp_t, z_wp_u, ↓pI_e, ↓pL_e, ↓pO_e, ↓pR_e, ↓p1_I, ↓p1_O, z_gl, z_st1, z_st2, z_nl_I, z_nl_O, z_nl_J, z_nl_L, if_true, if_false, ite_true, ite_false, true_and, and_true, List.mem_cons, List.not_mem_nil, or_false, false_or, or_self, List.length_cons, List.length_nil, InR_t, InL_t, z_ix_t, mI_s1, mI_s2, ↓brT, ↓brF, ↓brT', ↓brF', mL_sI, mR_sI, mK_sI, mS_sI, mI_sL, mL_s1, mL_s2, mR_sL, mK_sL, mS_sL, mI_sR, mL_sR, mR_s1, mR_s2, mK_sR, mS_sR, mA_s1, mA_s2, mL_sA, mR_sA, mK_sA, mS_sA, ix_n, ix_a, ix_m, ix_s, z_sw, z_stop, forall_const, true_implies, false_implies, imp_self, implies_true, not_true_eq_false, not_false_eq_true, ne_eq, eq_self, Option.some.injEq, reduceCtorEq, Nat.reduceAdd, Nat.reduceSub, Nat.reduceMul, Nat.reduceEqDiff, Nat.reduceLT, Nat.reduceLeDiff, Int.reduceAdd, Int.reduceMul, Int.reduceSub, Int.reduceNeg, Int.reduceToNat, Int.reduceLT, Int.reduceLE, Int.reduceEq, ↓reduceIte, List.reverse_cons, Option.toList, List.cons_append, List.nil_append, vI_inj, vL_inj, vO_inj, rI, rL, rO, rV, mI_sQ, mL_sQ, mK_sQ, mS_sQ, mQ_s1, mQ_s2, iL_and, iL_or, iL_xor, iL_shl, iL_ushr, iR_and, iR_or, iR_xor, iR_shl, iR_shr, iR_ushr, iR_cmp, yc0, tlX8_wouldChange, tkX8_wouldChange, o_aload, o_getR, o_goto, o_iadd, o_iald, o_iast, o_ic, o_iceq, o_icge, o_icne, o_ifeq, o_ifne, o_iinc, o_iload, o_iret, o_istore]
    try simp +contextual (disch := omega) only [impF, impT, and_true, true_and, implies_true, not_false_eq_true, not_true_eq_false]
    exact hnx
  | some u =>
    rw [hb] at hQ
    simp only [Option.isSome_some, if_true] at hQ ⊢
    have hS3 := hS2.of hW3.1.K hW3.2.1
    have hnx := mw_cnt l G QQ P v i (sW s) B t u hM.2.2.2.2 ht hB (best_sol hb).1.1 lv hlv h3 hS3 hm3 (hBs u hb).1 (fun q hq => by rw [h108]; exact hO q hq) (K h3 _ _ hQ hWX hm3) 8 0 (by omega)
    clear K hBs
    refine z_run1 tsX8_wouldChange [123] 20 ?_
    simp (maxSteps := 1000000) -implicitDefEqProofs +contextual (disch := omega) only [z_wp_t, z_wp_u, ↓pI_e, ↓pL_e, ↓pO_e, ↓pR_e, ↓p1_I, ↓p1_O, z_gl, z_st1, z_st2, z_nl_I, z_nl_O, z_nl_J, z_nl_L, if_true, if_false, ite_true, ite_false, true_and, and_true, List.mem_cons, List.not_mem_nil, or_false, false_or, or_self, List.length_cons, List.length_nil, InR_t, InL_t, z_ix_t, mI_s1, mI_s2, ↓brT, ↓brF, ↓brT', ↓brF', mL_sI, mR_sI, mK_sI, mS_sI, mI_sL, mL_s1, mL_s2, mR_sL, mK_sL, mS_sL, mI_sR, mL_sR, mR_s1, mR_s2, mK_sR, mS_sR, mA_s1, mA_s2, mL_sA, mR_sA, mK_sA, mS_sA, ix_n, ix_a, ix_m, ix_s, z_sw, z_stop, forall_const, true_implies, false_implies, imp_self, implies_true, not_true_eq_false, not_false_eq_true, ne_eq, eq_self, Option.some.injEq, reduceCtorEq, Nat.reduceAdd, Nat.reduceSub, Nat.reduceMul, Nat.reduceEqDiff, Nat.reduceLT, Nat.reduceLeDiff, Int.reduceAdd, Int.reduceMul, Int.reduceSub, Int.reduceNeg, Int.reduceToNat, Int.reduceLT, Int.reduceLE, Int.reduceEq, ↓reduceIte, List.reverse_cons, Option.toList, List.cons_append, List.nil_append, vI_inj, vL_inj, vO_inj, rI, rL, rO, rV, mI_sQ, mL_sQ, mK_sQ, mS_sQ, mQ_s1, mQ_s2, iL_and, iL_or, iL_xor, iL_shl, iL_ushr, iR_and, iR_or, iR_xor, iR_shl, iR_shr, iR_ushr, iR_cmp, yc0, tlX8_wouldChange, tkX8_wouldChange, o_aload, o_getR, o_goto, o_iadd, o_iald, o_iast, o_ic, o_iceq, o_icge, o_icne, o_ifeq, o_ifne, o_iinc, o_iload, o_iret, o_istore]
    try simp +contextual (disch := omega) only [impF, impT, and_true, true_and, implies_true, not_false_eq_true, not_true_eq_false]
    exact hnx
theorem mw_old (l : Launch) (G : zG) (h : zH) (QQ : Option zV → zH → Prop) (s : zS) (P v : Int) (t : Nat → Nat) (ht : ∀ p, p < 8 → t p ≤ aN (sW s) p) (lv : Nat) (hlv : 6 ≤ lv) (hM : MI h s) (hE : EnO h 105 8 t) (K : ∀ (g : Nat → Int), (∀ q, q < 8 → g q = verA (sW s) q (t q)) → z_X l G mtX8_wouldChange lv 0 0 (QQ) 0 0 (sA h 108 g) 58 [vR 93, vI P, vI v, vJ, vJ, vJ] []) : ∀ (d p : Nat) (g : Nat → Int), p + d = 8 → (∀ q, q < p → g q = verA (sW s) q (t q)) → z_X l G mtX8_wouldChange lv 0 0 (QQ) 0 0 (sA h 108 g) 29 [vR 93, vI P, vI v, vI p, vJ, vJ] [] := by
  obtain ⟨hS, hm, -, -, hA⟩ := hM
  have c0 := hS.1
  have c105 := hS.2.2.1.2.2.2.1
  have c108 := hS.2.2.1.2.2.2.2.2.2
  have s15 := hS.2.2.2.2.2.2.2.1
  have s20 := hS.2.2.2.2.2.2.2.2.2.2
  intro d
  induction d with
  | zero =>
    intro p g hp hg
    obtain rfl : p = 8 := by omega
    have hnx := K g hg
    clear K hg
    refine z_run1 tsX8_wouldChange [58] 20 ?_
    simp (maxSteps := 1000000) -implicitDefEqProofs +contextual (disch := omega) only [z_wp_t, z_wp_u, ↓pI_e, ↓pL_e, ↓pO_e, ↓pR_e, ↓p1_I, ↓p1_O, z_gl, z_st1, z_st2, z_nl_I, z_nl_O, z_nl_J, z_nl_L, if_true, if_false, ite_true, ite_false, true_and, and_true, List.mem_cons, List.not_mem_nil, or_false, false_or, or_self, List.length_cons, List.length_nil, InR_t, InL_t, z_ix_t, mI_s1, mI_s2, ↓brT, ↓brF, ↓brT', ↓brF', mL_sI, mR_sI, mK_sI, mS_sI, mI_sL, mL_s1, mL_s2, mR_sL, mK_sL, mS_sL, mI_sR, mL_sR, mR_s1, mR_s2, mK_sR, mS_sR, mA_s1, mA_s2, mL_sA, mR_sA, mK_sA, mS_sA, ix_n, ix_a, ix_m, ix_s, z_sw, z_stop, forall_const, true_implies, false_implies, imp_self, implies_true, not_true_eq_false, not_false_eq_true, ne_eq, eq_self, Option.some.injEq, reduceCtorEq, Nat.reduceAdd, Nat.reduceSub, Nat.reduceMul, Nat.reduceEqDiff, Nat.reduceLT, Nat.reduceLeDiff, Int.reduceAdd, Int.reduceMul, Int.reduceSub, Int.reduceNeg, Int.reduceToNat, Int.reduceLT, Int.reduceLE, Int.reduceEq, ↓reduceIte, List.reverse_cons, Option.toList, List.cons_append, List.nil_append, vI_inj, vL_inj, vO_inj, rI, rL, rO, rV, mI_sQ, mL_sQ, mK_sQ, mS_sQ, mQ_s1, mQ_s2, iL_and, iL_or, iL_xor, iL_shl, iL_ushr, iR_and, iR_or, iR_xor, iR_shl, iR_shr, iR_ushr, iR_cmp, yc0, tlX8_wouldChange, tkX8_wouldChange, o_aload, o_getR, o_goto, o_iadd, o_iald, o_iast, o_ic, o_iceq, o_icge, o_icne, o_ifeq, o_ifne, o_iinc, o_iload, o_iret, o_istore]
    try simp +contextual (disch := omega) only [impF, impT, and_true, true_and, implies_true, not_false_eq_true, not_true_eq_false]
    refine x_wk [vR 93, vI P, vI v, vJ, vJ, vJ] (by simp [z_wk]) ?_
    exact hnx
  | succ d ih =>
    intro p g hp hg
    have ep := hE p (by omega)
    have hr1 := ver_R hA (show p < 8 by omega) (ht p (by omega))
    have f1 : Fr (fun c => c = 108) h (sA h 108 g) := Fr.sA _ _ _ _ rfl
    have hvo := sm_versionOf l G (sA h 108 g) p (t p) (sW s) (hS.of f1.K rfl) (by rw [f1.I (by omega)]; exact hm) hA (by omega) (ht p (by omega)) 1 (by omega)
    have hnx := ih (p + 1) (up g p (verA (sW s) p (t p))) (by omega) (fun q hq => by
      by_cases e : q = p
      · rw [e, up_s]
      · rw [up_n _ _ e]; exact hg q (by omega))
    clear ih hg K hE
    generalize verA (sW s) p (t p) = y1 at *
    refine z_run1 tsX8_wouldChange [] 20 ?_
    simp (maxSteps := 1000000) -implicitDefEqProofs +contextual (disch := omega) only [z_wp_t, z_wp_u, ↓pI_e, ↓pL_e, ↓pO_e, ↓pR_e, ↓p1_I, ↓p1_O, z_gl, z_st1, z_st2, z_nl_I, z_nl_O, z_nl_J, z_nl_L, if_true, if_false, ite_true, ite_false, true_and, and_true, List.mem_cons, List.not_mem_nil, or_false, false_or, or_self, List.length_cons, List.length_nil, InR_t, InL_t, z_ix_t, mI_s1, mI_s2, ↓brT, ↓brF, ↓brT', ↓brF', mL_sI, mR_sI, mK_sI, mS_sI, mI_sL, mL_s1, mL_s2, mR_sL, mK_sL, mS_sL, mI_sR, mL_sR, mR_s1, mR_s2, mK_sR, mS_sR, mA_s1, mA_s2, mL_sA, mR_sA, mK_sA, mS_sA, ix_n, ix_a, ix_m, ix_s, z_sw, z_stop, forall_const, true_implies, false_implies, imp_self, implies_true, not_true_eq_false, not_false_eq_true, ne_eq, eq_self, Option.some.injEq, reduceCtorEq, Nat.reduceAdd, Nat.reduceSub, Nat.reduceMul, Nat.reduceEqDiff, Nat.reduceLT, Nat.reduceLeDiff, Int.reduceAdd, Int.reduceMul, Int.reduceSub, Int.reduceNeg, Int.reduceToNat, Int.reduceLT, Int.reduceLE, Int.reduceEq, ↓reduceIte, List.reverse_cons, Option.toList, List.cons_append, List.nil_append, vI_inj, vL_inj, vO_inj, rI, rL, rO, rV, mI_sQ, mL_sQ, mK_sQ, mS_sQ, mQ_s1, mQ_s2, iL_and, iL_or, iL_xor, iL_shl, iL_ushr, iR_and, iR_or, iR_xor, iR_shl, iR_shr, iR_ushr, iR_cmp, yc0, tlX8_wouldChange, tkX8_wouldChange, o_aload, o_getR, o_goto, o_iadd, o_iald, o_iast, o_ic, o_iceq, o_icge, o_icne, o_ifeq, o_ifne, o_iinc, o_iload, o_iret, o_istore, c0, c105, s15, s20, ep]
    try simp +contextual (disch := omega) only [impF, impT, and_true, true_and, implies_true, not_false_eq_true, not_true_eq_false]
    refine x_callV (by decide +kernel) cv_X8_159 (hvo) c0 (by omega) rfl (by omega) (by omega) rfl (Nat.le_of_ble_eq_true rfl) ?_
    rintro r h' ⟨rfl, hE'⟩
    subst h'
    refine z_run1 tsX8_wouldChange [29] 20 ?_
    simp (maxSteps := 1000000) -implicitDefEqProofs +contextual (disch := omega) only [z_wp_t, z_wp_u, ↓pI_e, ↓pL_e, ↓pO_e, ↓pR_e, ↓p1_I, ↓p1_O, z_gl, z_st1, z_st2, z_nl_I, z_nl_O, z_nl_J, z_nl_L, if_true, if_false, ite_true, ite_false, true_and, and_true, List.mem_cons, List.not_mem_nil, or_false, false_or, or_self, List.length_cons, List.length_nil, InR_t, InL_t, z_ix_t, mI_s1, mI_s2, ↓brT, ↓brF, ↓brT', ↓brF', mL_sI, mR_sI, mK_sI, mS_sI, mI_sL, mL_s1, mL_s2, mR_sL, mK_sL, mS_sL, mI_sR, mL_sR, mR_s1, mR_s2, mK_sR, mS_sR, mA_s1, mA_s2, mL_sA, mR_sA, mK_sA, mS_sA, ix_n, ix_a, ix_m, ix_s, z_sw, z_stop, forall_const, true_implies, false_implies, imp_self, implies_true, not_true_eq_false, not_false_eq_true, ne_eq, eq_self, Option.some.injEq, reduceCtorEq, Nat.reduceAdd, Nat.reduceSub, Nat.reduceMul, Nat.reduceEqDiff, Nat.reduceLT, Nat.reduceLeDiff, Int.reduceAdd, Int.reduceMul, Int.reduceSub, Int.reduceNeg, Int.reduceToNat, Int.reduceLT, Int.reduceLE, Int.reduceEq, ↓reduceIte, List.reverse_cons, Option.toList, List.cons_append, List.nil_append, vI_inj, vL_inj, vO_inj, rI, rL, rO, rV, mI_sQ, mL_sQ, mK_sQ, mS_sQ, mQ_s1, mQ_s2, iL_and, iL_or, iL_xor, iL_shl, iL_ushr, iR_and, iR_or, iR_xor, iR_shl, iR_shr, iR_ushr, iR_cmp, yc0, tlX8_wouldChange, tkX8_wouldChange, o_aload, o_getR, o_goto, o_iadd, o_iald, o_iast, o_ic, o_iceq, o_icge, o_icne, o_ifeq, o_ifne, o_iinc, o_iload, o_iret, o_istore, c0, c108, s20, sI_sA]
    try simp +contextual (disch := omega) only [impF, impT, and_true, true_and, implies_true, not_false_eq_true, not_true_eq_false]
    exact hnx
set_option maxHeartbeats 4000000 in
theorem sm_wouldChange (l : Launch) (G : zG) (h : zH) (s : zS) (p v : Int) (hM : MI h s) (hp : InR p) (hv : InR v) (lv : Nat) (hlv : 6 ≤ lv) : z_Sp l G mtX8_wouldChange lv 0 0 [vR 93, vI p, vI v] (h) (mQ h (fWould s p v, s)) := by
  refine x_enter [vR 93, vI p, vI v, vJ, vJ, vJ] (by decide +kernel) (by omega) rfl (Nat.le_of_ble_eq_true rfl) ?_
  generalize hQ : mQ h (fWould s p v, s) = QQ
  refine z_run1 tsX8_wouldChange [] 20 ?_
  simp (maxSteps := 1000000) -implicitDefEqProofs +contextual (disch := omega) only [z_wp_t, z_wp_u, ↓pI_e, ↓pL_e, ↓pO_e, ↓pR_e, ↓p1_I, ↓p1_O, z_gl, z_st1, z_st2, z_nl_I, z_nl_O, z_nl_J, z_nl_L, if_true, if_false, ite_true, ite_false, true_and, and_true, List.mem_cons, List.not_mem_nil, or_false, false_or, or_self, List.length_cons, List.length_nil, InR_t, InL_t, z_ix_t, mI_s1, mI_s2, ↓brT, ↓brF, ↓brT', ↓brF', mL_sI, mR_sI, mK_sI, mS_sI, mI_sL, mL_s1, mL_s2, mR_sL, mK_sL, mS_sL, mI_sR, mL_sR, mR_s1, mR_s2, mK_sR, mS_sR, mA_s1, mA_s2, mL_sA, mR_sA, mK_sA, mS_sA, ix_n, ix_a, ix_m, ix_s, z_sw, z_stop, forall_const, true_implies, false_implies, imp_self, implies_true, not_true_eq_false, not_false_eq_true, ne_eq, eq_self, Option.some.injEq, reduceCtorEq, Nat.reduceAdd, Nat.reduceSub, Nat.reduceMul, Nat.reduceEqDiff, Nat.reduceLT, Nat.reduceLeDiff, Int.reduceAdd, Int.reduceMul, Int.reduceSub, Int.reduceNeg, Int.reduceToNat, Int.reduceLT, Int.reduceLE, Int.reduceEq, ↓reduceIte, List.reverse_cons, Option.toList, List.cons_append, List.nil_append, vI_inj, vL_inj, vO_inj, rI, rL, rO, rV, mI_sQ, mL_sQ, mK_sQ, mS_sQ, mQ_s1, mQ_s2, iL_and, iL_or, iL_xor, iL_shl, iL_ushr, iR_and, iR_or, iR_xor, iR_shl, iR_shr, iR_ushr, iR_cmp, yc0, tlX8_wouldChange, tkX8_wouldChange, o_aload, o_getR, o_goto, o_iadd, o_iald, o_iast, o_ic, o_iceq, o_icge, o_icne, o_ifeq, o_ifne, o_iinc, o_iload, o_iret, o_istore]
  try simp +contextual (disch := omega) only [impF, impT, and_true, true_and, implies_true, not_false_eq_true, not_true_eq_false]
  refine x_callS (by decide +kernel) cv_X8_64 (sm_isPack l G h p hp 2 (by omega)) (by omega) rfl (by omega) (by omega) rfl (Nat.le_of_ble_eq_true rfl) ?_
  rintro r h' ⟨rfl, hE⟩
  subst h'
  cases hop : okP p
  · simp only [Bool.false_eq_true, if_false]
    refine z_run1 tsX8_wouldChange [] 20 ?_
    simp (maxSteps := 1000000) -implicitDefEqProofs +contextual (disch := omega) only [z_wp_t, z_wp_u, ↓pI_e, ↓pL_e, ↓pO_e, ↓pR_e, ↓p1_I, ↓p1_O, z_gl, z_st1, z_st2, z_nl_I, z_nl_O, z_nl_J, z_nl_L, if_true, if_false, ite_true, ite_false, true_and, and_true, List.mem_cons, List.not_mem_nil, or_false, false_or, or_self, List.length_cons, List.length_nil, InR_t, InL_t, z_ix_t, mI_s1, mI_s2, ↓brT, ↓brF, ↓brT', ↓brF', mL_sI, mR_sI, mK_sI, mS_sI, mI_sL, mL_s1, mL_s2, mR_sL, mK_sL, mS_sL, mI_sR, mL_sR, mR_s1, mR_s2, mK_sR, mS_sR, mA_s1, mA_s2, mL_sA, mR_sA, mK_sA, mS_sA, ix_n, ix_a, ix_m, ix_s, z_sw, z_stop, forall_const, true_implies, false_implies, imp_self, implies_true, not_true_eq_false, not_false_eq_true, ne_eq, eq_self, Option.some.injEq, reduceCtorEq, Nat.reduceAdd, Nat.reduceSub, Nat.reduceMul, Nat.reduceEqDiff, Nat.reduceLT, Nat.reduceLeDiff, Int.reduceAdd, Int.reduceMul, Int.reduceSub, Int.reduceNeg, Int.reduceToNat, Int.reduceLT, Int.reduceLE, Int.reduceEq, ↓reduceIte, List.reverse_cons, Option.toList, List.cons_append, List.nil_append, vI_inj, vL_inj, vO_inj, rI, rL, rO, rV, mI_sQ, mL_sQ, mK_sQ, mS_sQ, mQ_s1, mQ_s2, iL_and, iL_or, iL_xor, iL_shl, iL_ushr, iR_and, iR_or, iR_xor, iR_shl, iR_shr, iR_ushr, iR_cmp, yc0, tlX8_wouldChange, tkX8_wouldChange, o_aload, o_getR, o_goto, o_iadd, o_iald, o_iast, o_ic, o_iceq, o_icge, o_icne, o_ifeq, o_ifne, o_iinc, o_iload, o_iret, o_istore]
    try simp +contextual (disch := omega) only [impF, impT, and_true, true_and, implies_true, not_false_eq_true, not_true_eq_false]
    rw [← hQ, fWould, hop]
    exact ⟨rfl, hM, MF.rf⟩
  · simp only [if_true]
    refine z_run1 tsX8_wouldChange [] 20 ?_
    simp (maxSteps := 1000000) -implicitDefEqProofs +contextual (disch := omega) only [z_wp_t, z_wp_u, ↓pI_e, ↓pL_e, ↓pO_e, ↓pR_e, ↓p1_I, ↓p1_O, z_gl, z_st1, z_st2, z_nl_I, z_nl_O, z_nl_J, z_nl_L, if_true, if_false, ite_true, ite_false, true_and, and_true, List.mem_cons, List.not_mem_nil, or_false, false_or, or_self, List.length_cons, List.length_nil, InR_t, InL_t, z_ix_t, mI_s1, mI_s2, ↓brT, ↓brF, ↓brT', ↓brF', mL_sI, mR_sI, mK_sI, mS_sI, mI_sL, mL_s1, mL_s2, mR_sL, mK_sL, mS_sL, mI_sR, mL_sR, mR_s1, mR_s2, mK_sR, mS_sR, mA_s1, mA_s2, mL_sA, mR_sA, mK_sA, mS_sA, ix_n, ix_a, ix_m, ix_s, z_sw, z_stop, forall_const, true_implies, false_implies, imp_self, implies_true, not_true_eq_false, not_false_eq_true, ne_eq, eq_self, Option.some.injEq, reduceCtorEq, Nat.reduceAdd, Nat.reduceSub, Nat.reduceMul, Nat.reduceEqDiff, Nat.reduceLT, Nat.reduceLeDiff, Int.reduceAdd, Int.reduceMul, Int.reduceSub, Int.reduceNeg, Int.reduceToNat, Int.reduceLT, Int.reduceLE, Int.reduceEq, ↓reduceIte, List.reverse_cons, Option.toList, List.cons_append, List.nil_append, vI_inj, vL_inj, vO_inj, rI, rL, rO, rV, mI_sQ, mL_sQ, mK_sQ, mS_sQ, mQ_s1, mQ_s2, iL_and, iL_or, iL_xor, iL_shl, iL_ushr, iR_and, iR_or, iR_xor, iR_shl, iR_shr, iR_ushr, iR_cmp, yc0, tlX8_wouldChange, tkX8_wouldChange, o_aload, o_getR, o_goto, o_iadd, o_iald, o_iast, o_ic, o_iceq, o_icge, o_icne, o_ifeq, o_ifne, o_iinc, o_iload, o_iret, o_istore]
    try simp +contextual (disch := omega) only [impF, impT, and_true, true_and, implies_true, not_false_eq_true, not_true_eq_false]
    refine x_callS (by decide +kernel) cv_X8_68 (sm_isVersion l G h v hv 2 (by omega)) (by omega) rfl (by omega) (by omega) rfl (Nat.le_of_ble_eq_true rfl) ?_
    rintro r h' ⟨rfl, hE⟩
    subst h'
    cases hov : okV v
    · simp only [Bool.false_eq_true, if_false]
      refine z_run1 tsX8_wouldChange [] 20 ?_
      simp (maxSteps := 1000000) -implicitDefEqProofs +contextual (disch := omega) only [z_wp_t, z_wp_u, ↓pI_e, ↓pL_e, ↓pO_e, ↓pR_e, ↓p1_I, ↓p1_O, z_gl, z_st1, z_st2, z_nl_I, z_nl_O, z_nl_J, z_nl_L, if_true, if_false, ite_true, ite_false, true_and, and_true, List.mem_cons, List.not_mem_nil, or_false, false_or, or_self, List.length_cons, List.length_nil, InR_t, InL_t, z_ix_t, mI_s1, mI_s2, ↓brT, ↓brF, ↓brT', ↓brF', mL_sI, mR_sI, mK_sI, mS_sI, mI_sL, mL_s1, mL_s2, mR_sL, mK_sL, mS_sL, mI_sR, mL_sR, mR_s1, mR_s2, mK_sR, mS_sR, mA_s1, mA_s2, mL_sA, mR_sA, mK_sA, mS_sA, ix_n, ix_a, ix_m, ix_s, z_sw, z_stop, forall_const, true_implies, false_implies, imp_self, implies_true, not_true_eq_false, not_false_eq_true, ne_eq, eq_self, Option.some.injEq, reduceCtorEq, Nat.reduceAdd, Nat.reduceSub, Nat.reduceMul, Nat.reduceEqDiff, Nat.reduceLT, Nat.reduceLeDiff, Int.reduceAdd, Int.reduceMul, Int.reduceSub, Int.reduceNeg, Int.reduceToNat, Int.reduceLT, Int.reduceLE, Int.reduceEq, ↓reduceIte, List.reverse_cons, Option.toList, List.cons_append, List.nil_append, vI_inj, vL_inj, vO_inj, rI, rL, rO, rV, mI_sQ, mL_sQ, mK_sQ, mS_sQ, mQ_s1, mQ_s2, iL_and, iL_or, iL_xor, iL_shl, iL_ushr, iR_and, iR_or, iR_xor, iR_shl, iR_shr, iR_ushr, iR_cmp, yc0, tlX8_wouldChange, tkX8_wouldChange, o_aload, o_getR, o_goto, o_iadd, o_iald, o_iast, o_ic, o_iceq, o_icge, o_icne, o_ifeq, o_ifne, o_iinc, o_iload, o_iret, o_istore]
      try simp +contextual (disch := omega) only [impF, impT, and_true, true_and, implies_true, not_false_eq_true, not_true_eq_false]
      rw [← hQ, fWould, hop, hov]
      exact ⟨rfl, hM, MF.rf⟩
    · simp only [if_true]
      have hp2 := okP_t hop
      have hv2 := okV_t hov
      obtain ⟨P, rfl⟩ := Int.eq_ofNat_of_zero_le hp2.1
      have hP : P < 8 := by omega
      rw [fWould, hop, hov, Int.toNat_natCast] at hQ
      simp only [Bool.and_self, if_true] at hQ
      obtain ⟨hS, hm, -, -, hA⟩ := id hM
      have c0 := hS.1
      refine z_run1 tsX8_wouldChange [] 20 ?_
      simp (maxSteps := 1000000) -implicitDefEqProofs +contextual (disch := omega) only [z_wp_t, z_wp_u, ↓pI_e, ↓pL_e, ↓pO_e, ↓pR_e, ↓p1_I, ↓p1_O, z_gl, z_st1, z_st2, z_nl_I, z_nl_O, z_nl_J, z_nl_L, if_true, if_false, ite_true, ite_false, true_and, and_true, List.mem_cons, List.not_mem_nil, or_false, false_or, or_self, List.length_cons, List.length_nil, InR_t, InL_t, z_ix_t, mI_s1, mI_s2, ↓brT, ↓brF, ↓brT', ↓brF', mL_sI, mR_sI, mK_sI, mS_sI, mI_sL, mL_s1, mL_s2, mR_sL, mK_sL, mS_sL, mI_sR, mL_sR, mR_s1, mR_s2, mK_sR, mS_sR, mA_s1, mA_s2, mL_sA, mR_sA, mK_sA, mS_sA, ix_n, ix_a, ix_m, ix_s, z_sw, z_stop, forall_const, true_implies, false_implies, imp_self, implies_true, not_true_eq_false, not_false_eq_true, ne_eq, eq_self, Option.some.injEq, reduceCtorEq, Nat.reduceAdd, Nat.reduceSub, Nat.reduceMul, Nat.reduceEqDiff, Nat.reduceLT, Nat.reduceLeDiff, Int.reduceAdd, Int.reduceMul, Int.reduceSub, Int.reduceNeg, Int.reduceToNat, Int.reduceLT, Int.reduceLE, Int.reduceEq, ↓reduceIte, List.reverse_cons, Option.toList, List.cons_append, List.nil_append, vI_inj, vL_inj, vO_inj, rI, rL, rO, rV, mI_sQ, mL_sQ, mK_sQ, mS_sQ, mQ_s1, mQ_s2, iL_and, iL_or, iL_xor, iL_shl, iL_ushr, iR_and, iR_or, iR_xor, iR_shl, iR_shr, iR_ushr, iR_cmp, yc0, tlX8_wouldChange, tkX8_wouldChange, o_aload, o_getR, o_goto, o_iadd, o_iald, o_iast, o_ic, o_iceq, o_icge, o_icne, o_ifeq, o_ifne, o_iinc, o_iload, o_iret, o_istore]
      try simp +contextual (disch := omega) only [impF, impT, and_true, true_and, implies_true, not_false_eq_true, not_true_eq_false]
      refine x_callV (by decide +kernel) cv_X8_191 (sm_solves l G h (sW s) hS hm hA 5 (by omega)) c0 (by omega) rfl (by omega) (by omega) rfl (Nat.le_of_ble_eq_true rfl) ?_
      rintro r h1 ⟨rfl, hW1, -, -, hBs⟩
      have hM1 := hM.wk hW1
      obtain ⟨hS1, hm1, -, -, -⟩ := id hM1
      cases hb : bestA (sW s) with
      | none =>
        rw [hb] at hQ
        simp only [Option.isSome_none, Bool.false_eq_true, if_false]
        refine z_run1 tsX8_wouldChange [] 20 ?_
        simp (maxSteps := 1000000) -implicitDefEqProofs +contextual (disch := omega) only [z_wp_t, z_wp_u, ↓pI_e, ↓pL_e, ↓pO_e, ↓pR_e, ↓p1_I, ↓p1_O, z_gl, z_st1, z_st2, z_nl_I, z_nl_O, z_nl_J, z_nl_L, if_true, if_false, ite_true, ite_false, true_and, and_true, List.mem_cons, List.not_mem_nil, or_false, false_or, or_self, List.length_cons, List.length_nil, InR_t, InL_t, z_ix_t, mI_s1, mI_s2, ↓brT, ↓brF, ↓brT', ↓brF', mL_sI, mR_sI, mK_sI, mS_sI, mI_sL, mL_s1, mL_s2, mR_sL, mK_sL, mS_sL, mI_sR, mL_sR, mR_s1, mR_s2, mK_sR, mS_sR, mA_s1, mA_s2, mL_sA, mR_sA, mK_sA, mS_sA, ix_n, ix_a, ix_m, ix_s, z_sw, z_stop, forall_const, true_implies, false_implies, imp_self, implies_true, not_true_eq_false, not_false_eq_true, ne_eq, eq_self, Option.some.injEq, reduceCtorEq, Nat.reduceAdd, Nat.reduceSub, Nat.reduceMul, Nat.reduceEqDiff, Nat.reduceLT, Nat.reduceLeDiff, Int.reduceAdd, Int.reduceMul, Int.reduceSub, Int.reduceNeg, Int.reduceToNat, Int.reduceLT, Int.reduceLE, Int.reduceEq, ↓reduceIte, List.reverse_cons, Option.toList, List.cons_append, List.nil_append, vI_inj, vL_inj, vO_inj, rI, rL, rO, rV, mI_sQ, mL_sQ, mK_sQ, mS_sQ, mQ_s1, mQ_s2, iL_and, iL_or, iL_xor, iL_shl, iL_ushr, iR_and, iR_or, iR_xor, iR_shl, iR_shr, iR_ushr, iR_cmp, yc0, tlX8_wouldChange, tkX8_wouldChange, o_aload, o_getR, o_goto, o_iadd, o_iald, o_iast, o_ic, o_iceq, o_icge, o_icne, o_ifeq, o_ifne, o_iinc, o_iload, o_iret, o_istore]
        try simp +contextual (disch := omega) only [impF, impT, and_true, true_and, implies_true, not_false_eq_true, not_true_eq_false]
        rw [← hQ]
        exact ⟨rfl, hM1, hW1.mf⟩
      | some t =>
        rw [hb] at hQ
        simp only [Option.isSome_some, if_true] at hQ ⊢
        have h4 := hA.1 P hP
        have ht := (best_sol hb).1.1
        have hE1 := (hBs t hb).1
        clear hBs
        have K : ∀ (g : Nat → Int), (∀ q, q < 8 → g q = verA (sW s) q (t q)) → z_X l G mtX8_wouldChange lv 0 0 (QQ) 0 0 (sA h1 108 g) 58 [vR 93, vI (P : Int), vI v, vJ, vJ, vJ] [] := by
          intro g hg
          have f2 : Fr (fun c => c = 108) h1 (sA h1 108 g) := Fr.sA _ _ _ _ rfl
          have hW2 := hW1.tr (WK.w f2 rfl (fun c q => by omega))
          have hM2 := hM.wk hW2
          have eg : ∀ q, q < 8 → gI (sA h1 108 g) 108 q = verA (sW s) q (t q) := fun q hq => by rw [mA_s1]; exact hg q hq
          clear f2 hg
          generalize sA h1 108 g = h2 at *
          obtain ⟨hS2, hm2, -, -, -⟩ := id hM2
          have d0 := hS2.1
          have d94 := hS2.2.1.1
          have s0 := hS2.2.2.2.1.1
          have e32 := hm2.1 P hP
          have hix := sm_indexOf l G h2 P v (sW s) hS2 hm2 hA hP hv 1 (by omega)
          refine z_run1 tsX8_wouldChange [] 20 ?_
          simp (maxSteps := 1000000) -implicitDefEqProofs +contextual (disch := omega) only [z_wp_t, z_wp_u, ↓pI_e, ↓pL_e, ↓pO_e, ↓pR_e, ↓p1_I, ↓p1_O, z_gl, z_st1, z_st2, z_nl_I, z_nl_O, z_nl_J, z_nl_L, if_true, if_false, ite_true, ite_false, true_and, and_true, List.mem_cons, List.not_mem_nil, or_false, false_or, or_self, List.length_cons, List.length_nil, InR_t, InL_t, z_ix_t, mI_s1, mI_s2, ↓brT, ↓brF, ↓brT', ↓brF', mL_sI, mR_sI, mK_sI, mS_sI, mI_sL, mL_s1, mL_s2, mR_sL, mK_sL, mS_sL, mI_sR, mL_sR, mR_s1, mR_s2, mK_sR, mS_sR, mA_s1, mA_s2, mL_sA, mR_sA, mK_sA, mS_sA, ix_n, ix_a, ix_m, ix_s, z_sw, z_stop, forall_const, true_implies, false_implies, imp_self, implies_true, not_true_eq_false, not_false_eq_true, ne_eq, eq_self, Option.some.injEq, reduceCtorEq, Nat.reduceAdd, Nat.reduceSub, Nat.reduceMul, Nat.reduceEqDiff, Nat.reduceLT, Nat.reduceLeDiff, Int.reduceAdd, Int.reduceMul, Int.reduceSub, Int.reduceNeg, Int.reduceToNat, Int.reduceLT, Int.reduceLE, Int.reduceEq, ↓reduceIte, List.reverse_cons, Option.toList, List.cons_append, List.nil_append, vI_inj, vL_inj, vO_inj, rI, rL, rO, rV, mI_sQ, mL_sQ, mK_sQ, mS_sQ, mQ_s1, mQ_s2, iL_and, iL_or, iL_xor, iL_shl, iL_ushr, iR_and, iR_or, iR_xor, iR_shl, iR_shr, iR_ushr, iR_cmp, yc0, tlX8_wouldChange, tkX8_wouldChange, o_aload, o_getR, o_goto, o_iadd, o_iald, o_iast, o_ic, o_iceq, o_icge, o_icne, o_ifeq, o_ifne, o_iinc, o_iload, o_iret, o_istore]
          try simp +contextual (disch := omega) only [impF, impT, and_true, true_and, implies_true, not_false_eq_true, not_true_eq_false]
          refine x_callV (by decide +kernel) cv_X8_71 (hix) d0 (by omega) rfl (by omega) (by omega) rfl (Nat.le_of_ble_eq_true rfl) ?_
          rintro r h' ⟨rfl, hE⟩
          subst h'
          by_cases hf : fIx (aV (sW s) P) v (aN (sW s) P) 0 = -1
          · rw [hf]
            by_cases h44 : 4 ≤ aN (sW s) P
            · rw [if_pos ⟨hf, h44⟩] at hQ
              have e4 : aN (sW s) P = 4 := by omega
              rw [e4] at e32
              refine z_run1 tsX8_wouldChange [] 20 ?_
              simp (maxSteps := 1000000) -implicitDefEqProofs +contextual (disch := omega) only [z_wp_t, z_wp_u, ↓pI_e, ↓pL_e, ↓pO_e, ↓pR_e, ↓p1_I, ↓p1_O, z_gl, z_st1, z_st2, z_nl_I, z_nl_O, z_nl_J, z_nl_L, if_true, if_false, ite_true, ite_false, true_and, and_true, List.mem_cons, List.not_mem_nil, or_false, false_or, or_self, List.length_cons, List.length_nil, InR_t, InL_t, z_ix_t, mI_s1, mI_s2, ↓brT, ↓brF, ↓brT', ↓brF', mL_sI, mR_sI, mK_sI, mS_sI, mI_sL, mL_s1, mL_s2, mR_sL, mK_sL, mS_sL, mI_sR, mL_sR, mR_s1, mR_s2, mK_sR, mS_sR, mA_s1, mA_s2, mL_sA, mR_sA, mK_sA, mS_sA, ix_n, ix_a, ix_m, ix_s, z_sw, z_stop, forall_const, true_implies, false_implies, imp_self, implies_true, not_true_eq_false, not_false_eq_true, ne_eq, eq_self, Option.some.injEq, reduceCtorEq, Nat.reduceAdd, Nat.reduceSub, Nat.reduceMul, Nat.reduceEqDiff, Nat.reduceLT, Nat.reduceLeDiff, Int.reduceAdd, Int.reduceMul, Int.reduceSub, Int.reduceNeg, Int.reduceToNat, Int.reduceLT, Int.reduceLE, Int.reduceEq, ↓reduceIte, List.reverse_cons, Option.toList, List.cons_append, List.nil_append, vI_inj, vL_inj, vO_inj, rI, rL, rO, rV, mI_sQ, mL_sQ, mK_sQ, mS_sQ, mQ_s1, mQ_s2, iL_and, iL_or, iL_xor, iL_shl, iL_ushr, iR_and, iR_or, iR_xor, iR_shl, iR_shr, iR_ushr, iR_cmp, yc0, tlX8_wouldChange, tkX8_wouldChange, o_aload, o_getR, o_goto, o_iadd, o_iald, o_iast, o_ic, o_iceq, o_icge, o_icne, o_ifeq, o_ifne, o_iinc, o_iload, o_iret, o_istore, d0, d94, s0, e32]
              try simp +contextual (disch := omega) only [impF, impT, and_true, true_and, implies_true, not_false_eq_true, not_true_eq_false]
              rw [← hQ]
              exact ⟨rfl, hM2, hW2.mf⟩
            · rw [if_neg (fun q => h44 q.2)] at hQ
              have hch : chA (sW s) P v = insA (sW s) P v := if_pos hf
              rw [hch] at hQ
              have hB := insA_ok hA hP hv2 (by omega) hf
              refine z_run1 tsX8_wouldChange [] 20 ?_
              simp (maxSteps := 1000000) -implicitDefEqProofs +contextual (disch := omega) only [z_wp_t, z_wp_u, ↓pI_e, ↓pL_e, ↓pO_e, ↓pR_e, ↓p1_I, ↓p1_O, z_gl, z_st1, z_st2, z_nl_I, z_nl_O, z_nl_J, z_nl_L, if_true, if_false, ite_true, ite_false, true_and, and_true, List.mem_cons, List.not_mem_nil, or_false, false_or, or_self, List.length_cons, List.length_nil, InR_t, InL_t, z_ix_t, mI_s1, mI_s2, ↓brT, ↓brF, ↓brT', ↓brF', mL_sI, mR_sI, mK_sI, mS_sI, mI_sL, mL_s1, mL_s2, mR_sL, mK_sL, mS_sL, mI_sR, mL_sR, mR_s1, mR_s2, mK_sR, mS_sR, mA_s1, mA_s2, mL_sA, mR_sA, mK_sA, mS_sA, ix_n, ix_a, ix_m, ix_s, z_sw, z_stop, forall_const, true_implies, false_implies, imp_self, implies_true, not_true_eq_false, not_false_eq_true, ne_eq, eq_self, Option.some.injEq, reduceCtorEq, Nat.reduceAdd, Nat.reduceSub, Nat.reduceMul, Nat.reduceEqDiff, Nat.reduceLT, Nat.reduceLeDiff, Int.reduceAdd, Int.reduceMul, Int.reduceSub, Int.reduceNeg, Int.reduceToNat, Int.reduceLT, Int.reduceLE, Int.reduceEq, ↓reduceIte, List.reverse_cons, Option.toList, List.cons_append, List.nil_append, vI_inj, vL_inj, vO_inj, rI, rL, rO, rV, mI_sQ, mL_sQ, mK_sQ, mS_sQ, mQ_s1, mQ_s2, iL_and, iL_or, iL_xor, iL_shl, iL_ushr, iR_and, iR_or, iR_xor, iR_shl, iR_shr, iR_ushr, iR_cmp, yc0, tlX8_wouldChange, tkX8_wouldChange, o_aload, o_getR, o_goto, o_iadd, o_iald, o_iast, o_ic, o_iceq, o_icge, o_icne, o_ifeq, o_ifne, o_iinc, o_iload, o_iret, o_istore, d0, d94, s0, e32]
              try simp +contextual (disch := omega) only [impF, impT, and_true, true_and, implies_true, not_false_eq_true, not_true_eq_false]
              refine x_callV (by decide +kernel) cv_X8_78 (sm_puts l G h2 P v (sW s) hS2 hm2 hA hP hv (by omega) 1 (by omega)) d0 (by omega) rfl (by omega) (by omega) rfl (Nat.le_of_ble_eq_true rfl) ?_
              rintro r h3 ⟨rfl, f3, hR3, hm3⟩
              have hnx := mw_rest l G h QQ s (P : Int) v (-1) (insA (sW s) P v) t hM hB ht hQ lv hlv (fun h5 n q hQ5 hW5 hm5 => mw_bi l G h QQ s P v n q hM hP hv2 hf (by omega) hQ5 lv hlv h5 hW5 hm5) h3 ((WX.wk hW2).tr (WX.w f3 hR3)) hm3 (fun q hq => by rw [f3.I (by omega)]; exact eg q hq)
              clear hQ
              refine z_run1 tsX8_wouldChange [106] 20 ?_
              simp (maxSteps := 1000000) -implicitDefEqProofs +contextual (disch := omega) only [z_wp_t, z_wp_u, ↓pI_e, ↓pL_e, ↓pO_e, ↓pR_e, ↓p1_I, ↓p1_O, z_gl, z_st1, z_st2, z_nl_I, z_nl_O, z_nl_J, z_nl_L, if_true, if_false, ite_true, ite_false, true_and, and_true, List.mem_cons, List.not_mem_nil, or_false, false_or, or_self, List.length_cons, List.length_nil, InR_t, InL_t, z_ix_t, mI_s1, mI_s2, ↓brT, ↓brF, ↓brT', ↓brF', mL_sI, mR_sI, mK_sI, mS_sI, mI_sL, mL_s1, mL_s2, mR_sL, mK_sL, mS_sL, mI_sR, mL_sR, mR_s1, mR_s2, mK_sR, mS_sR, mA_s1, mA_s2, mL_sA, mR_sA, mK_sA, mS_sA, ix_n, ix_a, ix_m, ix_s, z_sw, z_stop, forall_const, true_implies, false_implies, imp_self, implies_true, not_true_eq_false, not_false_eq_true, ne_eq, eq_self, Option.some.injEq, reduceCtorEq, Nat.reduceAdd, Nat.reduceSub, Nat.reduceMul, Nat.reduceEqDiff, Nat.reduceLT, Nat.reduceLeDiff, Int.reduceAdd, Int.reduceMul, Int.reduceSub, Int.reduceNeg, Int.reduceToNat, Int.reduceLT, Int.reduceLE, Int.reduceEq, ↓reduceIte, List.reverse_cons, Option.toList, List.cons_append, List.nil_append, vI_inj, vL_inj, vO_inj, rI, rL, rO, rV, mI_sQ, mL_sQ, mK_sQ, mS_sQ, mQ_s1, mQ_s2, iL_and, iL_or, iL_xor, iL_shl, iL_ushr, iR_and, iR_or, iR_xor, iR_shl, iR_shr, iR_ushr, iR_cmp, yc0, tlX8_wouldChange, tkX8_wouldChange, o_aload, o_getR, o_goto, o_iadd, o_iald, o_iast, o_ic, o_iceq, o_icge, o_icne, o_ifeq, o_ifne, o_iinc, o_iload, o_iret, o_istore]
              try simp +contextual (disch := omega) only [impF, impT, and_true, true_and, implies_true, not_false_eq_true, not_true_eq_false]
              exact hnx
          · obtain ⟨g1, g2, g3⟩ := fIx_some rfl hf
            obtain ⟨j, hj⟩ := Int.eq_ofNat_of_zero_le (a := fIx (aV (sW s) P) v (aN (sW s) P) 0) (by omega)
            rw [if_neg (fun q => hf q.1)] at hQ
            have hch : chA (sW s) P v = remA (sW s) P j := by unfold chA; rw [if_neg hf, hj, Int.toNat_natCast]
            rw [hch] at hQ
            rw [hj] at g1 g2 g3 ⊢
            rw [Int.toNat_natCast] at g3
            have hB := remA_ok hA hP (show j < aN (sW s) P by omega)
            have hjr : (j : Int) ≠ -1 := by omega
            refine z_run1 tsX8_wouldChange [] 20 ?_
            simp (maxSteps := 1000000) -implicitDefEqProofs +contextual (disch := omega) only [z_wp_t, z_wp_u, ↓pI_e, ↓pL_e, ↓pO_e, ↓pR_e, ↓p1_I, ↓p1_O, z_gl, z_st1, z_st2, z_nl_I, z_nl_O, z_nl_J, z_nl_L, if_true, if_false, ite_true, ite_false, true_and, and_true, List.mem_cons, List.not_mem_nil, or_false, false_or, or_self, List.length_cons, List.length_nil, InR_t, InL_t, z_ix_t, mI_s1, mI_s2, ↓brT, ↓brF, ↓brT', ↓brF', mL_sI, mR_sI, mK_sI, mS_sI, mI_sL, mL_s1, mL_s2, mR_sL, mK_sL, mS_sL, mI_sR, mL_sR, mR_s1, mR_s2, mK_sR, mS_sR, mA_s1, mA_s2, mL_sA, mR_sA, mK_sA, mS_sA, ix_n, ix_a, ix_m, ix_s, z_sw, z_stop, forall_const, true_implies, false_implies, imp_self, implies_true, not_true_eq_false, not_false_eq_true, ne_eq, eq_self, Option.some.injEq, reduceCtorEq, Nat.reduceAdd, Nat.reduceSub, Nat.reduceMul, Nat.reduceEqDiff, Nat.reduceLT, Nat.reduceLeDiff, Int.reduceAdd, Int.reduceMul, Int.reduceSub, Int.reduceNeg, Int.reduceToNat, Int.reduceLT, Int.reduceLE, Int.reduceEq, ↓reduceIte, List.reverse_cons, Option.toList, List.cons_append, List.nil_append, vI_inj, vL_inj, vO_inj, rI, rL, rO, rV, mI_sQ, mL_sQ, mK_sQ, mS_sQ, mQ_s1, mQ_s2, iL_and, iL_or, iL_xor, iL_shl, iL_ushr, iR_and, iR_or, iR_xor, iR_shl, iR_shr, iR_ushr, iR_cmp, yc0, tlX8_wouldChange, tkX8_wouldChange, o_aload, o_getR, o_goto, o_iadd, o_iald, o_iast, o_ic, o_iceq, o_icge, o_icne, o_ifeq, o_ifne, o_iinc, o_iload, o_iret, o_istore, d0, d94, s0, e32]
            try simp +contextual (disch := omega) only [impF, impT, and_true, true_and, implies_true, not_false_eq_true, not_true_eq_false]
            refine x_callV (by decide +kernel) cv_X8_82 (sm_takes l G h2 P j (sW s) hS2 hm2 hA hP (by omega) 1 (by omega)) d0 (by omega) rfl (by omega) (by omega) rfl (Nat.le_of_ble_eq_true rfl) ?_
            rintro r h3 ⟨rfl, f3, hR3, hm3⟩
            have hnx := mw_rest l G h QQ s (P : Int) v (j : Int) (remA (sW s) P j) t hM hB ht hQ lv hlv (fun h5 n q hQ5 hW5 hm5 => mw_bt l G h QQ s P j v n q hM hP hv2 (by omega) g3 hQ5 lv hlv h5 hW5 hm5) h3 ((WX.wk hW2).tr (WX.w f3 hR3)) hm3 (fun q hq => by rw [f3.I (by omega)]; exact eg q hq)
            exact hnx
        have h0 := mw_old l G h1 QQ s (P : Int) v t ht lv hlv hM1 hE1 K 8 0 (gI h1 108) (by omega) (fun q hq => by omega)
        rw [sA_self] at h0
        clear K
        refine z_run1 tsX8_wouldChange [29] 20 ?_
        simp (maxSteps := 1000000) -implicitDefEqProofs +contextual (disch := omega) only [z_wp_t, z_wp_u, ↓pI_e, ↓pL_e, ↓pO_e, ↓pR_e, ↓p1_I, ↓p1_O, z_gl, z_st1, z_st2, z_nl_I, z_nl_O, z_nl_J, z_nl_L, if_true, if_false, ite_true, ite_false, true_and, and_true, List.mem_cons, List.not_mem_nil, or_false, false_or, or_self, List.length_cons, List.length_nil, InR_t, InL_t, z_ix_t, mI_s1, mI_s2, ↓brT, ↓brF, ↓brT', ↓brF', mL_sI, mR_sI, mK_sI, mS_sI, mI_sL, mL_s1, mL_s2, mR_sL, mK_sL, mS_sL, mI_sR, mL_sR, mR_s1, mR_s2, mK_sR, mS_sR, mA_s1, mA_s2, mL_sA, mR_sA, mK_sA, mS_sA, ix_n, ix_a, ix_m, ix_s, z_sw, z_stop, forall_const, true_implies, false_implies, imp_self, implies_true, not_true_eq_false, not_false_eq_true, ne_eq, eq_self, Option.some.injEq, reduceCtorEq, Nat.reduceAdd, Nat.reduceSub, Nat.reduceMul, Nat.reduceEqDiff, Nat.reduceLT, Nat.reduceLeDiff, Int.reduceAdd, Int.reduceMul, Int.reduceSub, Int.reduceNeg, Int.reduceToNat, Int.reduceLT, Int.reduceLE, Int.reduceEq, ↓reduceIte, List.reverse_cons, Option.toList, List.cons_append, List.nil_append, vI_inj, vL_inj, vO_inj, rI, rL, rO, rV, mI_sQ, mL_sQ, mK_sQ, mS_sQ, mQ_s1, mQ_s2, iL_and, iL_or, iL_xor, iL_shl, iL_ushr, iR_and, iR_or, iR_xor, iR_shl, iR_shr, iR_ushr, iR_cmp, yc0, tlX8_wouldChange, tkX8_wouldChange, o_aload, o_getR, o_goto, o_iadd, o_iald, o_iast, o_ic, o_iceq, o_icge, o_icne, o_ifeq, o_ifne, o_iinc, o_iload, o_iret, o_istore]
        try simp +contextual (disch := omega) only [impF, impT, and_true, true_and, implies_true, not_false_eq_true, not_true_eq_false]
        exact h0
