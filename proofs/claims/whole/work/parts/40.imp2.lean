/-! Puzzle.impose, ruleApplies -/
def SymF (F : Nat → Int) : Prop := ∀ p v q w, p < 8 → v < 5 → q < 8 → w < 5 → lb (F (5 * p + v)) (5 * q + w) = true → lb (F (5 * q + w)) (5 * p + v) = true
def ImpOK (h : zH) (z : Nat) (A : zA) (S : Nat → Bool) : Prop := InL (gL h z 8) ∧ (∀ j, 40 ≤ j → lb (gL h z 8) j = false) ∧ (∀ p v, p < 8 → v < 5 → lb (gL h z 8) (5 * p + v) = true → v ≤ aN A p) ∧ (OwnF (gL h (z + 5)) ∧ SymF (gL h (z + 5))) ∧ (∀ p v, p < 8 → v < 5 → lb (gL h z 8) (5 * p + v) = true → lb (gL h (z + 5) (5 * p + v)) (5 * p + v) = true) ∧ ∀ t, (∀ p, p < 8 → t p ≤ 4) → (Lf (gL h z 8) t ∧ Cm (gL h (z + 5)) t ↔ SolP A S t)
def PzI (h : zH) (z : Nat) (A : zA) : Prop := gI h z 9 = -1 ∨ ((0 ≤ gI h z 9 ∧ gI h z 9 < 1048576) ∧ ImpOK h z A (tb (gI h z 9)))
/-- behind the rules below i -/
def InvR (A : zA) (S : Nat → Bool) (i : Nat) (O : Int) (F : Nat → Int) : Prop := InL O ∧ (∀ j, 40 ≤ j → lb O j = false) ∧ (∀ p v, p < 8 → v < 5 → (lb O (5 * p + v) = true ↔ v ≤ aN A p ∧ ∀ r, r < i → S r = true → ¬ (rC (aR A r) = -1 ∧ p = rTn A r ∧ hB A r v = false))) ∧ ∀ p v q w, p < 8 → v < 5 → q < 8 → w < 5 → (lb (F (5 * p + v)) (5 * q + w) = true ↔ (p = q → v = w) ∧ ∀ r, r < i → S r = true → vio A r p v q w = false ∧ vio A r q w p v = false)
theorem InvR.skip {A : zA} {S : Nat → Bool} {i : Nat} {O : Int} {F : Nat → Int} (h : InvR A S i O F) (hs : S i = false) : InvR A S (i + 1) O F := by
  have e : ∀ (P : Nat → Prop), (∀ r, r < i + 1 → S r = true → P r) ↔ ∀ r, r < i → S r = true → P r := fun P => ⟨fun q r h1 h2 => q r (by omega) h2, fun q r h1 h2 => q r (by
    by_cases e : r = i
    · rw [e, hs] at h2; cases h2
    · omega) h2⟩
  refine ⟨h.1, h.2.1, fun p v hp hv => ?_, fun p v q w hp hv hq hw => ?_⟩
  · rw [h.2.2.1 p v hp hv, e (fun r => ¬ (rC (aR A r) = -1 ∧ p = rTn A r ∧ hB A r v = false))]
  · rw [h.2.2.2 p v q w hp hv hq hw, e (fun r => vio A r p v q w = false ∧ vio A r q w p v = false)]
theorem InvR.step {A : zA} {S : Nat → Bool} {i : Nat} {O O' : Int} {F F' : Nat → Int} (h : InvR A S i O F) (hs : S i = true) (hi : imp1 A i O F O' F') : InvR A S (i + 1) O' F' := by
  have e : ∀ (P : Nat → Prop), (∀ r, r < i + 1 → S r = true → P r) ↔ (∀ r, r < i → S r = true → P r) ∧ P i := fun P => ⟨fun q => ⟨fun r h1 h2 => q r (by omega) h2, q i (by omega) hs⟩, fun q r h1 h2 => by
    by_cases e : r = i
    · rw [e]; exact q.2
    · exact q.1 r (by omega) h2⟩
  obtain ⟨i1, i2, i3, i4⟩ := hi
  refine ⟨i1, fun j hj => i3 j (h.2.1 j hj), fun p v hp hv => ?_, fun p v q w hp hv hq hw => ?_⟩
  · rw [i2 p v hp hv, Bool.and_eq_true, h.2.2.1 p v hp hv, e (fun r => ¬ (rC (aR A r) = -1 ∧ p = rTn A r ∧ hB A r v = false)), and_assoc]
    refine and_congr_right fun _ => and_congr_right fun _ => ?_
    by_cases q1 : rC (aR A i) = -1 <;> by_cases q2 : p = rTn A i <;> cases hB A i v <;> simp [q1, q2]
  · rw [i4 p v q w hp hv hq hw, Bool.and_eq_true, Bool.and_eq_true, h.2.2.2 p v q w hp hv hq hw, e (fun r => vio A r p v q w = false ∧ vio A r q w p v = false)]
    simp [hv, and_assoc]
theorem InvR.sol {A : zA} {S : Nat → Bool} {O : Int} {F : Nat → Int} (hA : AOK A) (h : InvR A S 20 O F) (hS : ∀ r, S r = true → r < aC A) {t : Nat → Nat} (h4 : ∀ p, p < 8 → t p ≤ 4) : Lf O t ∧ Cm F t ↔ SolP A S t := by
  have h20 := hA.2.2.2.2.1
  have hru : ∀ r, r < aC A → rTn A r < 8 ∧ (rC (aR A r) ≠ -1 → 0 ≤ rC (aR A r) ∧ rCn A r < 8) := fun r hr => by
    have := hA.2.2.2.2.2.2 r hr
    unfold RuA at this
    unfold rTn rCn
    omega
  constructor
  · rintro ⟨h1, h2⟩
    refine ⟨fun p hp => ((h.2.2.1 p (t p) hp (by have := h4 p hp; omega)).mp (h1 p hp)).1, fun r hr hs => ?_⟩
    obtain ⟨hT, hC⟩ := hru r hr
    unfold okB apB
    by_cases hc : rC (aR A r) = -1
    · have := ((h.2.2.1 (rTn A r) (t (rTn A r)) hT (by have := h4 _ hT; omega)).mp (h1 _ hT)).2 r (by omega) hs
      cases hb : hB A r (t (rTn A r))
      · exact absurd ⟨hc, rfl, hb⟩ this
      · simp
    · obtain ⟨c0, c8⟩ := hC hc
      have := ((h.2.2.2 (rCn A r) (t (rCn A r)) (rTn A r) (t (rTn A r)) c8 (by have := h4 _ c8; omega) hT (by have := h4 _ hT; omega)).mp (h2 _ c8 _ hT)).2 r (by omega) hs
      have := this.1
      unfold vio at this
      simp [c0] at this
      simp [hc]
      cases hb : cB A r (t (rCn A r))
      · simp
      · simp; exact this hb
  · rintro ⟨h1, h2⟩
    have key : ∀ r, r < 20 → S r = true → okB A r t = true := fun r _ hs => h2 r (hS r hs) hs
    refine ⟨fun p hp => (h.2.2.1 p (t p) hp (by have := h4 p hp; omega)).mpr ⟨h1 p hp, fun r hr hs => ?_⟩, fun p hp q hq => (h.2.2.2 p (t p) q (t q) hp (by have := h4 p hp; omega) hq (by have := h4 q hq; omega)).mpr ⟨fun e => by rw [e], fun r hr hs => ⟨?_, ?_⟩⟩⟩
    · rintro ⟨q1, q2, q3⟩
      have := key r hr hs
      unfold okB apB at this
      rw [← q2] at this
      simp [q1, q3] at this
    · have := key r hr hs
      unfold okB apB at this
      cases hv : vio A r p (t p) q (t q)
      · rfl
      · unfold vio at hv
        simp at hv
        obtain ⟨g1, ⟨g2, g3⟩, g4, g5⟩ := hv
        rw [← g2, ← g4, g3, g5] at this
        simp at this
    · have := key r hr hs
      unfold okB apB at this
      cases hv : vio A r q (t q) p (t p)
      · rfl
      · unfold vio at hv
        simp at hv
        obtain ⟨g1, ⟨g2, g3⟩, g4, g5⟩ := hv
        rw [← g2, ← g4, g3, g5] at this
        simp at this
set_option maxRecDepth 4000 in
set_option maxHeartbeats 4000000 in
theorem sp_impose (l : Launch) (G : zG) (h : zH) (z : Nat) (m : Int) (A : zA) (hsh : ShP h z) (hD : PzD h z A) (hA : AOK A) (hm : 0 ≤ m ∧ m < 1048576) (hmb : ∀ r, tb m r = true → r < aC A) (hI : PzI h z A) (lv : Nat) (hlv : 3 ≤ lv) : z_Sp l G mtX2_impose lv 0 0 [vR z, vI m] (h) (fun x h' => x = none ∧ ∃ O F, h' = hX z (sI h z 9 m) O F ∧ ImpOK h' z A (tb m)) := by
  have hsh' := hsh
  obtain ⟨k0, k1, k2, k3, k4, k5, r0, r1, r2, r3, r4⟩ := hsh'
  refine x_enter [vR z, vI m, vJ, vJ] (by decide +kernel) (by omega) rfl (Nat.le_of_ble_eq_true rfl) ?_
  have hmR : InR m := by unfold InR; omega
  have h9 : InR (gI h z 9) := by
    rcases hI with q | q
    · rw [q]; unfold InR; omega
    · have := q.1; unfold InR; omega
  unfold InR at h9
  by_cases he : gI h z 9 = m
  · refine z_run1 tsX2_impose [] 20 ?_
    simp (maxSteps := 1000000) -implicitDefEqProofs +contextual (disch := omega) only [z_wp_t, z_wp_u, ↓pI_e, ↓pL_e, ↓pO_e, ↓pR_e, ↓p1_I, ↓p1_O, z_gl, z_st1, z_st2, z_nl_I, z_nl_O, z_nl_J, z_nl_L, if_true, if_false, ite_true, ite_false, true_and, and_true, List.mem_cons, List.not_mem_nil, or_false, false_or, or_self, List.length_cons, List.length_nil, InR_t, InL_t, z_ix_t, mI_s1, mI_s2, ↓brT, ↓brF, ↓brT', ↓brF', mL_sI, mR_sI, mK_sI, mS_sI, mI_sL, mL_s1, mL_s2, mR_sL, mK_sL, mS_sL, mI_sR, mL_sR, mR_s1, mR_s2, mK_sR, mS_sR, mA_s1, mA_s2, mL_sA, mR_sA, mK_sA, mS_sA, ix_n, ix_a, ix_m, ix_s, z_sw, z_stop, forall_const, true_implies, false_implies, imp_self, implies_true, not_true_eq_false, not_false_eq_true, ne_eq, eq_self, Option.some.injEq, reduceCtorEq, Nat.reduceAdd, Nat.reduceSub, Nat.reduceMul, Nat.reduceEqDiff, Nat.reduceLT, Nat.reduceLeDiff, Int.reduceAdd, Int.reduceMul, Int.reduceSub, Int.reduceNeg, Int.reduceToNat, Int.reduceLT, Int.reduceLE, Int.reduceEq, ↓reduceIte, List.reverse_cons, Option.toList, List.cons_append, List.nil_append, vI_inj, vL_inj, vO_inj, rI, rL, rO, rV, mI_sQ, mL_sQ, mK_sQ, mS_sQ, mQ_s1, mQ_s2, iL_and, iL_or, iL_xor, iL_shl, iL_ushr, iR_and, iR_or, iR_xor, iR_shl, iR_shr, iR_ushr, iR_cmp, yc0, tlX2_impose, tkX2_impose, o_aload, o_getI, o_getL, o_getR, o_goto, o_iand, o_ic, o_icge, o_icne, o_iinc, o_iload, o_irem, o_ishr, o_istore, o_isub, o_land, o_last, o_lc, o_lor, o_lshl, o_lxor, o_putI, o_putL, o_vret, k0, he]
    try simp +contextual (disch := omega) only [impF, impT, and_true, true_and, implies_true, not_false_eq_true, not_true_eq_false]
    have e9 : sI h z 9 m = h := by
      rw [← he]
      refine zH_ext rfl ?_ rfl rfl
      funext b j
      rw [mI_sI]
      split
      · rename_i q; rw [q.1, q.2]
      · rfl
    refine ⟨gL h z 8, gL h (z + 5), ?_, ?_⟩
    · rw [e9, hX_self]
    · rcases hI with q | q
      · omega
      · rw [← he]; exact q.2
  · generalize hQ : (fun (x : Option zV) (h' : zH) => x = none ∧ ∃ O F, h' = hX z (sI h z 9 m) O F ∧ ImpOK h' z A (tb m)) = QQ
    have h20 := hA.2.2.2.2.1
    obtain ⟨P, hP⟩ : ∃ P, gL h z 5 = P := ⟨_, rfl⟩
    have hpub := hD.2.1
    rw [hP] at hpub
    have hk9 : ShP (sI h z 9 m) z := hsh.I _ _ _
    have hD9 : ∀ r, r < aC A → PzR (sI h z 9 m) z A r := fun r hr => (hD.1 r hr).o (mI_s2 _ _ (Or.inl (by omega))) (mI_s2 _ _ (Or.inl (by omega))) (mI_s2 _ _ (Or.inl (by omega))) (mI_s2 _ _ (Or.inl (by omega)))
    have lo2 : ∀ (d i : Nat) (O : Int) (F : Nat → Int), i + d = 20 → InvR A (tb m) i O F → z_X l G mtX2_impose lv 0 0 (QQ) 0 0 (hX z (sI h z 9 m) O F) 67 [vR z, vI m, vI i, vJ] [] := by
      intro d
      induction d with
      | zero =>
        intro i O F hi hinv
        obtain rfl : i = 20 := by omega
        have hown : OwnF F := fun p v w hp hv hw q => (((hinv.2.2.2 p v p w hp hv hp hw).mp q).1 rfl).symm
        have hsym : SymF F := fun p v q w hp hv hq hw b => by
          obtain ⟨b1, b2⟩ := (hinv.2.2.2 p v q w hp hv hq hw).mp b
          exact (hinv.2.2.2 q w p v hq hw hp hv).mpr ⟨fun e => (b1 e.symm).symm, fun r hr hs => (b2 r hr hs).symm⟩
        refine z_run1 tsX2_impose [] 20 ?_
        simp (maxSteps := 1000000) -implicitDefEqProofs +contextual (disch := omega) only [z_wp_t, z_wp_u, ↓pI_e, ↓pL_e, ↓pO_e, ↓pR_e, ↓p1_I, ↓p1_O, z_gl, z_st1, z_st2, z_nl_I, z_nl_O, z_nl_J, z_nl_L, if_true, if_false, ite_true, ite_false, true_and, and_true, List.mem_cons, List.not_mem_nil, or_false, false_or, or_self, List.length_cons, List.length_nil, InR_t, InL_t, z_ix_t, mI_s1, mI_s2, ↓brT, ↓brF, ↓brT', ↓brF', mL_sI, mR_sI, mK_sI, mS_sI, mI_sL, mL_s1, mL_s2, mR_sL, mK_sL, mS_sL, mI_sR, mL_sR, mR_s1, mR_s2, mK_sR, mS_sR, mA_s1, mA_s2, mL_sA, mR_sA, mK_sA, mS_sA, ix_n, ix_a, ix_m, ix_s, z_sw, z_stop, forall_const, true_implies, false_implies, imp_self, implies_true, not_true_eq_false, not_false_eq_true, ne_eq, eq_self, Option.some.injEq, reduceCtorEq, Nat.reduceAdd, Nat.reduceSub, Nat.reduceMul, Nat.reduceEqDiff, Nat.reduceLT, Nat.reduceLeDiff, Int.reduceAdd, Int.reduceMul, Int.reduceSub, Int.reduceNeg, Int.reduceToNat, Int.reduceLT, Int.reduceLE, Int.reduceEq, ↓reduceIte, List.reverse_cons, Option.toList, List.cons_append, List.nil_append, vI_inj, vL_inj, vO_inj, rI, rL, rO, rV, mI_sQ, mL_sQ, mK_sQ, mS_sQ, mQ_s1, mQ_s2, iL_and, iL_or, iL_xor, iL_shl, iL_ushr, iR_and, iR_or, iR_xor, iR_shl, iR_shr, iR_ushr, iR_cmp, yc0, tlX2_impose, tkX2_impose, o_aload, o_getI, o_getL, o_getR, o_goto, o_iand, o_ic, o_icge, o_icne, o_iinc, o_iload, o_irem, o_ishr, o_istore, o_isub, o_land, o_last, o_lc, o_lor, o_lshl, o_lxor, o_putI, o_putL, o_vret]
        try simp +contextual (disch := omega) only [impF, impT, and_true, true_and, implies_true, not_false_eq_true, not_true_eq_false]
        refine x_callV (by decide +kernel) cv_X2_103 (sp_takeUnfit l G (sI h z 9 m) z O F hk9 hinv.1 hown 2 (by omega)) k0 (by omega) rfl (by omega) (by omega) rfl (Nat.le_of_ble_eq_true rfl) ?_
        rintro r h' ⟨rfl, O', rfl, ⟨g1, g2, g3⟩, g4⟩
        refine z_run1 tsX2_impose [] 20 ?_
        simp (maxSteps := 1000000) -implicitDefEqProofs +contextual (disch := omega) only [z_wp_t, z_wp_u, ↓pI_e, ↓pL_e, ↓pO_e, ↓pR_e, ↓p1_I, ↓p1_O, z_gl, z_st1, z_st2, z_nl_I, z_nl_O, z_nl_J, z_nl_L, if_true, if_false, ite_true, ite_false, true_and, and_true, List.mem_cons, List.not_mem_nil, or_false, false_or, or_self, List.length_cons, List.length_nil, InR_t, InL_t, z_ix_t, mI_s1, mI_s2, ↓brT, ↓brF, ↓brT', ↓brF', mL_sI, mR_sI, mK_sI, mS_sI, mI_sL, mL_s1, mL_s2, mR_sL, mK_sL, mS_sL, mI_sR, mL_sR, mR_s1, mR_s2, mK_sR, mS_sR, mA_s1, mA_s2, mL_sA, mR_sA, mK_sA, mS_sA, ix_n, ix_a, ix_m, ix_s, z_sw, z_stop, forall_const, true_implies, false_implies, imp_self, implies_true, not_true_eq_false, not_false_eq_true, ne_eq, eq_self, Option.some.injEq, reduceCtorEq, Nat.reduceAdd, Nat.reduceSub, Nat.reduceMul, Nat.reduceEqDiff, Nat.reduceLT, Nat.reduceLeDiff, Int.reduceAdd, Int.reduceMul, Int.reduceSub, Int.reduceNeg, Int.reduceToNat, Int.reduceLT, Int.reduceLE, Int.reduceEq, ↓reduceIte, List.reverse_cons, Option.toList, List.cons_append, List.nil_append, vI_inj, vL_inj, vO_inj, rI, rL, rO, rV, mI_sQ, mL_sQ, mK_sQ, mS_sQ, mQ_s1, mQ_s2, iL_and, iL_or, iL_xor, iL_shl, iL_ushr, iR_and, iR_or, iR_xor, iR_shl, iR_shr, iR_ushr, iR_cmp, yc0, tlX2_impose, tkX2_impose, o_aload, o_getI, o_getL, o_getR, o_goto, o_iand, o_ic, o_icge, o_icne, o_iinc, o_iload, o_irem, o_ishr, o_istore, o_isub, o_land, o_last, o_lc, o_lor, o_lshl, o_lxor, o_putI, o_putL, o_vret]
        try simp +contextual (disch := omega) only [impF, impT, and_true, true_and, implies_true, not_false_eq_true, not_true_eq_false]
        rw [← hQ]
        have eF : gL (hX z (sI h z 9 m) O' F) (z + 5) = F := by funext j; exact hX_f _ _ _ _ _
        refine ⟨rfl, O', F, rfl, ?_⟩
        unfold ImpOK
        rw [eF, hX_o]
        refine ⟨g1, fun j hj => g2 j (hinv.2.1 j hj), fun p v hp hv q => ?_, ⟨hown, hsym⟩, g4, fun t h4 => ?_⟩
        · cases hq : lb O (5 * p + v)
          · rw [g2 _ hq] at q; cases q
          · exact ((hinv.2.2.1 p v hp hv).mp hq).1
        · rw [← hinv.sol hA hmb h4]
          constructor
          · rintro ⟨q1, q2⟩
            refine ⟨fun p hp => ?_, q2⟩
            cases hq : lb O (5 * p + t p)
            · have := q1 p hp; rw [g2 _ hq] at this; cases this
            · rfl
          · rintro ⟨q1, q2⟩; exact ⟨g3 t h4 q1 q2, q2⟩
      | succ d ih =>
        intro i O F hi hinv
        have hb := z_bit m (k := i) (by omega)
        cases hs : tb m i
        · rw [hs] at hb
          simp only [Bool.false_eq_true, if_false] at hb
          have hnx := ih (i + 1) O F (by omega) (hinv.skip hs)
          refine z_run1 tsX2_impose [67] 30 ?_
          simp (maxSteps := 1000000) -implicitDefEqProofs +contextual (disch := omega) only [z_wp_t, z_wp_u, ↓pI_e, ↓pL_e, ↓pO_e, ↓pR_e, ↓p1_I, ↓p1_O, z_gl, z_st1, z_st2, z_nl_I, z_nl_O, z_nl_J, z_nl_L, if_true, if_false, ite_true, ite_false, true_and, and_true, List.mem_cons, List.not_mem_nil, or_false, false_or, or_self, List.length_cons, List.length_nil, InR_t, InL_t, z_ix_t, mI_s1, mI_s2, ↓brT, ↓brF, ↓brT', ↓brF', mL_sI, mR_sI, mK_sI, mS_sI, mI_sL, mL_s1, mL_s2, mR_sL, mK_sL, mS_sL, mI_sR, mL_sR, mR_s1, mR_s2, mK_sR, mS_sR, mA_s1, mA_s2, mL_sA, mR_sA, mK_sA, mS_sA, ix_n, ix_a, ix_m, ix_s, z_sw, z_stop, forall_const, true_implies, false_implies, imp_self, implies_true, not_true_eq_false, not_false_eq_true, ne_eq, eq_self, Option.some.injEq, reduceCtorEq, Nat.reduceAdd, Nat.reduceSub, Nat.reduceMul, Nat.reduceEqDiff, Nat.reduceLT, Nat.reduceLeDiff, Int.reduceAdd, Int.reduceMul, Int.reduceSub, Int.reduceNeg, Int.reduceToNat, Int.reduceLT, Int.reduceLE, Int.reduceEq, ↓reduceIte, List.reverse_cons, Option.toList, List.cons_append, List.nil_append, vI_inj, vL_inj, vO_inj, rI, rL, rO, rV, mI_sQ, mL_sQ, mK_sQ, mS_sQ, mQ_s1, mQ_s2, iL_and, iL_or, iL_xor, iL_shl, iL_ushr, iR_and, iR_or, iR_xor, iR_shl, iR_shr, iR_ushr, iR_cmp, yc0, tlX2_impose, tkX2_impose, o_aload, o_getI, o_getL, o_getR, o_goto, o_iand, o_ic, o_icge, o_icne, o_iinc, o_iload, o_irem, o_ishr, o_istore, o_isub, o_land, o_last, o_lc, o_lor, o_lshl, o_lxor, o_putI, o_putL, o_vret, hb]
          try simp +contextual (disch := omega) only [impF, impT, and_true, true_and, implies_true, not_false_eq_true, not_true_eq_false]
          exact hnx
        · rw [hs] at hb
          simp only [if_true] at hb
          have hic := hmb i hs
          refine z_run1 tsX2_impose [] 30 ?_
          simp (maxSteps := 1000000) -implicitDefEqProofs +contextual (disch := omega) only [z_wp_t, z_wp_u, ↓pI_e, ↓pL_e, ↓pO_e, ↓pR_e, ↓p1_I, ↓p1_O, z_gl, z_st1, z_st2, z_nl_I, z_nl_O, z_nl_J, z_nl_L, if_true, if_false, ite_true, ite_false, true_and, and_true, List.mem_cons, List.not_mem_nil, or_false, false_or, or_self, List.length_cons, List.length_nil, InR_t, InL_t, z_ix_t, mI_s1, mI_s2, ↓brT, ↓brF, ↓brT', ↓brF', mL_sI, mR_sI, mK_sI, mS_sI, mI_sL, mL_s1, mL_s2, mR_sL, mK_sL, mS_sL, mI_sR, mL_sR, mR_s1, mR_s2, mK_sR, mS_sR, mA_s1, mA_s2, mL_sA, mR_sA, mK_sA, mS_sA, ix_n, ix_a, ix_m, ix_s, z_sw, z_stop, forall_const, true_implies, false_implies, imp_self, implies_true, not_true_eq_false, not_false_eq_true, ne_eq, eq_self, Option.some.injEq, reduceCtorEq, Nat.reduceAdd, Nat.reduceSub, Nat.reduceMul, Nat.reduceEqDiff, Nat.reduceLT, Nat.reduceLeDiff, Int.reduceAdd, Int.reduceMul, Int.reduceSub, Int.reduceNeg, Int.reduceToNat, Int.reduceLT, Int.reduceLE, Int.reduceEq, ↓reduceIte, List.reverse_cons, Option.toList, List.cons_append, List.nil_append, vI_inj, vL_inj, vO_inj, rI, rL, rO, rV, mI_sQ, mL_sQ, mK_sQ, mS_sQ, mQ_s1, mQ_s2, iL_and, iL_or, iL_xor, iL_shl, iL_ushr, iR_and, iR_or, iR_xor, iR_shl, iR_shr, iR_ushr, iR_cmp, yc0, tlX2_impose, tkX2_impose, o_aload, o_getI, o_getL, o_getR, o_goto, o_iand, o_ic, o_icge, o_icne, o_iinc, o_iload, o_irem, o_ishr, o_istore, o_isub, o_land, o_last, o_lc, o_lor, o_lshl, o_lxor, o_putI, o_putL, o_vret, hb]
          try simp +contextual (disch := omega) only [impF, impT, and_true, true_and, implies_true, not_false_eq_true, not_true_eq_false]
          refine x_callV (by decide +kernel) cv_X2_99 (sp_imposeRule l G (sI h z 9 m) z i A O F hk9 (hD9 i hic) (hA.2.2.2.2.2.2 i hic) (by omega) hinv.1 2 (by omega)) k0 (by omega) rfl (by omega) (by omega) rfl (Nat.le_of_ble_eq_true rfl) ?_
          rintro r h' ⟨rfl, O', F', rfl, hi1⟩
          have hnx := ih (i + 1) O' F' (by omega) (hinv.step hs hi1)
          refine z_run1 tsX2_impose [67] 30 ?_
          simp (maxSteps := 1000000) -implicitDefEqProofs +contextual (disch := omega) only [z_wp_t, z_wp_u, ↓pI_e, ↓pL_e, ↓pO_e, ↓pR_e, ↓p1_I, ↓p1_O, z_gl, z_st1, z_st2, z_nl_I, z_nl_O, z_nl_J, z_nl_L, if_true, if_false, ite_true, ite_false, true_and, and_true, List.mem_cons, List.not_mem_nil, or_false, false_or, or_self, List.length_cons, List.length_nil, InR_t, InL_t, z_ix_t, mI_s1, mI_s2, ↓brT, ↓brF, ↓brT', ↓brF', mL_sI, mR_sI, mK_sI, mS_sI, mI_sL, mL_s1, mL_s2, mR_sL, mK_sL, mS_sL, mI_sR, mL_sR, mR_s1, mR_s2, mK_sR, mS_sR, mA_s1, mA_s2, mL_sA, mR_sA, mK_sA, mS_sA, ix_n, ix_a, ix_m, ix_s, z_sw, z_stop, forall_const, true_implies, false_implies, imp_self, implies_true, not_true_eq_false, not_false_eq_true, ne_eq, eq_self, Option.some.injEq, reduceCtorEq, Nat.reduceAdd, Nat.reduceSub, Nat.reduceMul, Nat.reduceEqDiff, Nat.reduceLT, Nat.reduceLeDiff, Int.reduceAdd, Int.reduceMul, Int.reduceSub, Int.reduceNeg, Int.reduceToNat, Int.reduceLT, Int.reduceLE, Int.reduceEq, ↓reduceIte, List.reverse_cons, Option.toList, List.cons_append, List.nil_append, vI_inj, vL_inj, vO_inj, rI, rL, rO, rV, mI_sQ, mL_sQ, mK_sQ, mS_sQ, mQ_s1, mQ_s2, iL_and, iL_or, iL_xor, iL_shl, iL_ushr, iR_and, iR_or, iR_xor, iR_shl, iR_shr, iR_ushr, iR_cmp, yc0, tlX2_impose, tkX2_impose, o_aload, o_getI, o_getL, o_getR, o_goto, o_iand, o_ic, o_icge, o_icne, o_iinc, o_iload, o_irem, o_ishr, o_istore, o_isub, o_land, o_last, o_lc, o_lor, o_lshl, o_lxor, o_putI, o_putL, o_vret]
          try simp +contextual (disch := omega) only [impF, impT, and_true, true_and, implies_true, not_false_eq_true, not_true_eq_false]
          exact hnx
    have lo1 : ∀ (d s : Nat) (F : Nat → Int), s + d = 40 → (∀ j, j < s → F j = y_or (y_and 1099511627775 (y_xor (y_shl 31 ((5 * (j / 5) : Nat) : Int)) (-1))) (y_shl 1 (j : Int))) → z_X l G mtX2_impose lv 0 0 (QQ) 0 0 (hX z (sI h z 9 m) P F) 24 [vR z, vI m, vI s, vJ] [] := by
      intro d
      induction d with
      | zero =>
        intro s F hs hF
        have hinv : InvR A (tb m) 0 P F := by
          refine ⟨hpub.1, hpub.2.2, fun p v hp hv => ?_, fun p v q w hp hv hq hw => ?_⟩
          · rw [hpub.2.1 p v hp hv]
            simp
          · rw [hF _ (by omega), initF_b _ (by omega) _ (by omega), show (5 * q + w) / 5 = q by omega, show (5 * p + v) / 5 = p by omega]
            simp
            omega
        have hnx := lo2 20 0 P F (by omega) hinv
        refine z_run1 tsX2_impose [67] 20 ?_
        simp (maxSteps := 1000000) -implicitDefEqProofs +contextual (disch := omega) only [z_wp_t, z_wp_u, ↓pI_e, ↓pL_e, ↓pO_e, ↓pR_e, ↓p1_I, ↓p1_O, z_gl, z_st1, z_st2, z_nl_I, z_nl_O, z_nl_J, z_nl_L, if_true, if_false, ite_true, ite_false, true_and, and_true, List.mem_cons, List.not_mem_nil, or_false, false_or, or_self, List.length_cons, List.length_nil, InR_t, InL_t, z_ix_t, mI_s1, mI_s2, ↓brT, ↓brF, ↓brT', ↓brF', mL_sI, mR_sI, mK_sI, mS_sI, mI_sL, mL_s1, mL_s2, mR_sL, mK_sL, mS_sL, mI_sR, mL_sR, mR_s1, mR_s2, mK_sR, mS_sR, mA_s1, mA_s2, mL_sA, mR_sA, mK_sA, mS_sA, ix_n, ix_a, ix_m, ix_s, z_sw, z_stop, forall_const, true_implies, false_implies, imp_self, implies_true, not_true_eq_false, not_false_eq_true, ne_eq, eq_self, Option.some.injEq, reduceCtorEq, Nat.reduceAdd, Nat.reduceSub, Nat.reduceMul, Nat.reduceEqDiff, Nat.reduceLT, Nat.reduceLeDiff, Int.reduceAdd, Int.reduceMul, Int.reduceSub, Int.reduceNeg, Int.reduceToNat, Int.reduceLT, Int.reduceLE, Int.reduceEq, ↓reduceIte, List.reverse_cons, Option.toList, List.cons_append, List.nil_append, vI_inj, vL_inj, vO_inj, rI, rL, rO, rV, mI_sQ, mL_sQ, mK_sQ, mS_sQ, mQ_s1, mQ_s2, iL_and, iL_or, iL_xor, iL_shl, iL_ushr, iR_and, iR_or, iR_xor, iR_shl, iR_shr, iR_ushr, iR_cmp, yc0, tlX2_impose, tkX2_impose, o_aload, o_getI, o_getL, o_getR, o_goto, o_iand, o_ic, o_icge, o_icne, o_iinc, o_iload, o_irem, o_ishr, o_istore, o_isub, o_land, o_last, o_lc, o_lor, o_lshl, o_lxor, o_putI, o_putL, o_vret]
        try simp +contextual (disch := omega) only [impF, impT, and_true, true_and, implies_true, not_false_eq_true, not_true_eq_false]
        refine x_wk [vR z, vI m, vI ((0 : Nat) : Int), vJ] (by simp [z_wk]) ?_
        exact hnx
      | succ d ih =>
        intro s F hs hF
        have em : ((s : Int)).tmod 5 = ((s % 5 : Nat) : Int) := tmN (x := s) (y := 5) (by omega)
        have es : (s : Int) - ((s % 5 : Nat) : Int) = ((5 * (s / 5) : Nat) : Int) := by omega
        have hnx := ih (s + 1) (up F s (y_or (y_and 1099511627775 (y_xor (y_shl 31 ((5 * (s / 5) : Nat) : Int)) (-1))) (y_shl 1 (s : Int)))) (by omega) (fun j hj => by
          by_cases e : j = s
          · rw [e, up_s]
          · rw [up_n _ _ e]; exact hF j (by omega))
        refine z_run1 tsX2_impose [24] 40 ?_
        simp (maxSteps := 1000000) -implicitDefEqProofs +contextual (disch := omega) only [z_wp_t, z_wp_u, ↓pI_e, ↓pL_e, ↓pO_e, ↓pR_e, ↓p1_I, ↓p1_O, z_gl, z_st1, z_st2, z_nl_I, z_nl_O, z_nl_J, z_nl_L, if_true, if_false, ite_true, ite_false, true_and, and_true, List.mem_cons, List.not_mem_nil, or_false, false_or, or_self, List.length_cons, List.length_nil, InR_t, InL_t, z_ix_t, mI_s1, mI_s2, ↓brT, ↓brF, ↓brT', ↓brF', mL_sI, mR_sI, mK_sI, mS_sI, mI_sL, mL_s1, mL_s2, mR_sL, mK_sL, mS_sL, mI_sR, mL_sR, mR_s1, mR_s2, mK_sR, mS_sR, mA_s1, mA_s2, mL_sA, mR_sA, mK_sA, mS_sA, ix_n, ix_a, ix_m, ix_s, z_sw, z_stop, forall_const, true_implies, false_implies, imp_self, implies_true, not_true_eq_false, not_false_eq_true, ne_eq, eq_self, Option.some.injEq, reduceCtorEq, Nat.reduceAdd, Nat.reduceSub, Nat.reduceMul, Nat.reduceEqDiff, Nat.reduceLT, Nat.reduceLeDiff, Int.reduceAdd, Int.reduceMul, Int.reduceSub, Int.reduceNeg, Int.reduceToNat, Int.reduceLT, Int.reduceLE, Int.reduceEq, ↓reduceIte, List.reverse_cons, Option.toList, List.cons_append, List.nil_append, vI_inj, vL_inj, vO_inj, rI, rL, rO, rV, mI_sQ, mL_sQ, mK_sQ, mS_sQ, mQ_s1, mQ_s2, iL_and, iL_or, iL_xor, iL_shl, iL_ushr, iR_and, iR_or, iR_xor, iR_shl, iR_shr, iR_ushr, iR_cmp, yc0, tlX2_impose, tkX2_impose, o_aload, o_getI, o_getL, o_getR, o_goto, o_iand, o_ic, o_icge, o_icne, o_iinc, o_iload, o_irem, o_ishr, o_istore, o_isub, o_land, o_last, o_lc, o_lor, o_lshl, o_lxor, o_putI, o_putL, o_vret, em, es, hX_K, hX_R, k0, k5, r4, hX_sf]
        try simp +contextual (disch := omega) only [impF, impT, and_true, true_and, implies_true, not_false_eq_true, not_true_eq_false]
        refine x_wk [vR z, vI m, vI ((s + 1 : Nat) : Int), vJ] (by simp [z_wk]) ?_
        exact hnx
    have h0 := lo1 40 0 (gL h (z + 5)) (by omega) (fun j hj => by omega)
    have eh : sL (sI h z 9 m) z 8 P = hX z (sI h z 9 m) P (gL h (z + 5)) := by
      rw [← hX_so z (sI h z 9 m) (gL h z 8) P (gL h (z + 5))]
      congr 1
      exact (hX_self z (sI h z 9 m)).symm
    refine z_run1 tsX2_impose [24] 30 ?_
    simp (maxSteps := 1000000) -implicitDefEqProofs +contextual (disch := omega) only [z_wp_t, z_wp_u, ↓pI_e, ↓pL_e, ↓pO_e, ↓pR_e, ↓p1_I, ↓p1_O, z_gl, z_st1, z_st2, z_nl_I, z_nl_O, z_nl_J, z_nl_L, if_true, if_false, ite_true, ite_false, true_and, and_true, List.mem_cons, List.not_mem_nil, or_false, false_or, or_self, List.length_cons, List.length_nil, InR_t, InL_t, z_ix_t, mI_s1, mI_s2, ↓brT, ↓brF, ↓brT', ↓brF', mL_sI, mR_sI, mK_sI, mS_sI, mI_sL, mL_s1, mL_s2, mR_sL, mK_sL, mS_sL, mI_sR, mL_sR, mR_s1, mR_s2, mK_sR, mS_sR, mA_s1, mA_s2, mL_sA, mR_sA, mK_sA, mS_sA, ix_n, ix_a, ix_m, ix_s, z_sw, z_stop, forall_const, true_implies, false_implies, imp_self, implies_true, not_true_eq_false, not_false_eq_true, ne_eq, eq_self, Option.some.injEq, reduceCtorEq, Nat.reduceAdd, Nat.reduceSub, Nat.reduceMul, Nat.reduceEqDiff, Nat.reduceLT, Nat.reduceLeDiff, Int.reduceAdd, Int.reduceMul, Int.reduceSub, Int.reduceNeg, Int.reduceToNat, Int.reduceLT, Int.reduceLE, Int.reduceEq, ↓reduceIte, List.reverse_cons, Option.toList, List.cons_append, List.nil_append, vI_inj, vL_inj, vO_inj, rI, rL, rO, rV, mI_sQ, mL_sQ, mK_sQ, mS_sQ, mQ_s1, mQ_s2, iL_and, iL_or, iL_xor, iL_shl, iL_ushr, iR_and, iR_or, iR_xor, iR_shl, iR_shr, iR_ushr, iR_cmp, yc0, tlX2_impose, tkX2_impose, o_aload, o_getI, o_getL, o_getR, o_goto, o_iand, o_ic, o_icge, o_icne, o_iinc, o_iload, o_irem, o_ishr, o_istore, o_isub, o_land, o_last, o_lc, o_lor, o_lshl, o_lxor, o_putI, o_putL, o_vret, k0, hP, eh]
    try simp +contextual (disch := omega) only [impF, impT, and_true, true_and, implies_true, not_false_eq_true, not_true_eq_false]
    exact h0
theorem Enc_and {x : Int} {s : Nat → Nat} (he : Enc x s) {p : Nat} (hp : p < 8) (h4 : s p ≤ 4) {c : Int} {f : Nat → Bool} (hc : msk c f) : z_and (vsO x p) c = 0 ↔ f (s p) = false := by
  rw [z_and0]
  constructor
  · intro h
    have := h (s p) (by omega)
    rw [vsO_b x hp (by omega), he.2.1 p _ hp (by omega), hc.2 _ (by omega)] at this
    simpa [show s p < 5 by omega] using this
  · intro h i hi
    rw [vsO_b x hp hi]
    by_cases q : i < 5
    · rw [he.2.1 p i hp q, hc.2 i q]
      by_cases e : i = s p
      · rw [e, h]; simp
      · simp [e]
    · simp [q]
set_option maxHeartbeats 4000000 in
theorem sp_ruleApplies (l : Launch) (G : zG) (h : zH) (z r : Nat) (x : Int) (s : Nat → Nat) (A : zA) (hsh : ShP h z) (hD : PzR h z A r) (hru : RuA (aR A r)) (hr : r < 20) (he : Enc x s) (h4 : ∀ p, p < 8 → s p ≤ 4) (lv : Nat) (hlv : 2 ≤ lv) : z_Sp l G mtX2_ruleApplies lv 0 0 [vR z, vI r, vL x] (h) (rI (if apB A r s then 1 else 0) h) := by
  obtain ⟨k0, k1, k2, k3, k4, k5, r0, r1, r2, r3, r4⟩ := hsh
  obtain ⟨d1, d2, d3, d4⟩ := hD
  unfold RuA at hru
  generalize hcv : gI h (z + 2) r = cv at d2
  refine x_enter [vR z, vI r, vL x, vJ, vJ] (by decide +kernel) (by omega) rfl (Nat.le_of_ble_eq_true rfl) ?_
  unfold apB
  by_cases hc : rC (aR A r) = -1
  · refine z_run1 tsX2_ruleApplies [] 40 ?_
    simp (maxSteps := 1000000) -implicitDefEqProofs +contextual (disch := omega) only [z_wp_t, z_wp_u, ↓pI_e, ↓pL_e, ↓pO_e, ↓pR_e, ↓p1_I, ↓p1_O, z_gl, z_st1, z_st2, z_nl_I, z_nl_O, z_nl_J, z_nl_L, if_true, if_false, ite_true, ite_false, true_and, and_true, List.mem_cons, List.not_mem_nil, or_false, false_or, or_self, List.length_cons, List.length_nil, InR_t, InL_t, z_ix_t, mI_s1, mI_s2, ↓brT, ↓brF, ↓brT', ↓brF', mL_sI, mR_sI, mK_sI, mS_sI, mI_sL, mL_s1, mL_s2, mR_sL, mK_sL, mS_sL, mI_sR, mL_sR, mR_s1, mR_s2, mK_sR, mS_sR, mA_s1, mA_s2, mL_sA, mR_sA, mK_sA, mS_sA, ix_n, ix_a, ix_m, ix_s, z_sw, z_stop, forall_const, true_implies, false_implies, imp_self, implies_true, not_true_eq_false, not_false_eq_true, ne_eq, eq_self, Option.some.injEq, reduceCtorEq, Nat.reduceAdd, Nat.reduceSub, Nat.reduceMul, Nat.reduceEqDiff, Nat.reduceLT, Nat.reduceLeDiff, Int.reduceAdd, Int.reduceMul, Int.reduceSub, Int.reduceNeg, Int.reduceToNat, Int.reduceLT, Int.reduceLE, Int.reduceEq, ↓reduceIte, List.reverse_cons, Option.toList, List.cons_append, List.nil_append, vI_inj, vL_inj, vO_inj, rI, rL, rO, rV, mI_sQ, mL_sQ, mK_sQ, mS_sQ, mQ_s1, mQ_s2, iL_and, iL_or, iL_xor, iL_shl, iL_ushr, iR_and, iR_or, iR_xor, iR_shl, iR_shr, iR_ushr, iR_cmp, yc0, tlX2_ruleApplies, tkX2_ruleApplies, o_aload, o_getR, o_goto, o_iald, o_iand, o_ic, o_iceq, o_iclt, o_ifeq, o_iflt, o_iload, o_istore, o_lload, o_zret, k0, k1, r0, d1, hc]
    try simp +contextual (disch := omega) only [impF, impT, and_true, true_and, implies_true, not_false_eq_true, not_true_eq_false]
    simp [hc]
  · have eC : rC (aR A r) = ((rCn A r : Nat) : Int) := by unfold rCn; omega
    have hC8 : rCn A r < 8 := by unfold rCn; omega
    have hcv2 : msk cv (cB A r) := msk_congr (fun v hv => by simp [show 0 ≤ rC (aR A r) by omega]) d2
    have hea := Enc_and he hC8 (h4 _ hC8) hcv2
    rw [show decide (rC (aR A r) = -1) = false by simp [hc]]
    rw [eC] at d1
    generalize hcc : rCn A r = c at eC hC8 d1 hea
    refine z_run1 tsX2_ruleApplies [] 40 ?_
    simp (maxSteps := 1000000) -implicitDefEqProofs +contextual (disch := omega) only [z_wp_t, z_wp_u, ↓pI_e, ↓pL_e, ↓pO_e, ↓pR_e, ↓p1_I, ↓p1_O, z_gl, z_st1, z_st2, z_nl_I, z_nl_O, z_nl_J, z_nl_L, if_true, if_false, ite_true, ite_false, true_and, and_true, List.mem_cons, List.not_mem_nil, or_false, false_or, or_self, List.length_cons, List.length_nil, InR_t, InL_t, z_ix_t, mI_s1, mI_s2, ↓brT, ↓brF, ↓brT', ↓brF', mL_sI, mR_sI, mK_sI, mS_sI, mI_sL, mL_s1, mL_s2, mR_sL, mK_sL, mS_sL, mI_sR, mL_sR, mR_s1, mR_s2, mK_sR, mS_sR, mA_s1, mA_s2, mL_sA, mR_sA, mK_sA, mS_sA, ix_n, ix_a, ix_m, ix_s, z_sw, z_stop, forall_const, true_implies, false_implies, imp_self, implies_true, not_true_eq_false, not_false_eq_true, ne_eq, eq_self, Option.some.injEq, reduceCtorEq, Nat.reduceAdd, Nat.reduceSub, Nat.reduceMul, Nat.reduceEqDiff, Nat.reduceLT, Nat.reduceLeDiff, Int.reduceAdd, Int.reduceMul, Int.reduceSub, Int.reduceNeg, Int.reduceToNat, Int.reduceLT, Int.reduceLE, Int.reduceEq, ↓reduceIte, List.reverse_cons, Option.toList, List.cons_append, List.nil_append, vI_inj, vL_inj, vO_inj, rI, rL, rO, rV, mI_sQ, mL_sQ, mK_sQ, mS_sQ, mQ_s1, mQ_s2, iL_and, iL_or, iL_xor, iL_shl, iL_ushr, iR_and, iR_or, iR_xor, iR_shl, iR_shr, iR_ushr, iR_cmp, yc0, tlX2_ruleApplies, tkX2_ruleApplies, o_aload, o_getR, o_goto, o_iald, o_iand, o_ic, o_iceq, o_iclt, o_ifeq, o_iflt, o_iload, o_istore, o_lload, o_zret, k0, k1, r0, d1]
    try simp +contextual (disch := omega) only [impF, impT, and_true, true_and, implies_true, not_false_eq_true, not_true_eq_false]
    refine x_callS (by decide +kernel) cv_X2_86 (sp_valuesOf l G _ x c 1 (by omega)) (by omega) rfl (by omega) (by omega) rfl (Nat.le_of_ble_eq_true rfl) ?_
    rintro r h' ⟨rfl, hE⟩
    subst h'
    cases hb : cB A r (s c)
    · have hz := hea.mpr hb
      refine z_run1 tsX2_ruleApplies [] 40 ?_
      simp (maxSteps := 1000000) -implicitDefEqProofs +contextual (disch := omega) only [z_wp_t, z_wp_u, ↓pI_e, ↓pL_e, ↓pO_e, ↓pR_e, ↓p1_I, ↓p1_O, z_gl, z_st1, z_st2, z_nl_I, z_nl_O, z_nl_J, z_nl_L, if_true, if_false, ite_true, ite_false, true_and, and_true, List.mem_cons, List.not_mem_nil, or_false, false_or, or_self, List.length_cons, List.length_nil, InR_t, InL_t, z_ix_t, mI_s1, mI_s2, ↓brT, ↓brF, ↓brT', ↓brF', mL_sI, mR_sI, mK_sI, mS_sI, mI_sL, mL_s1, mL_s2, mR_sL, mK_sL, mS_sL, mI_sR, mL_sR, mR_s1, mR_s2, mK_sR, mS_sR, mA_s1, mA_s2, mL_sA, mR_sA, mK_sA, mS_sA, ix_n, ix_a, ix_m, ix_s, z_sw, z_stop, forall_const, true_implies, false_implies, imp_self, implies_true, not_true_eq_false, not_false_eq_true, ne_eq, eq_self, Option.some.injEq, reduceCtorEq, Nat.reduceAdd, Nat.reduceSub, Nat.reduceMul, Nat.reduceEqDiff, Nat.reduceLT, Nat.reduceLeDiff, Int.reduceAdd, Int.reduceMul, Int.reduceSub, Int.reduceNeg, Int.reduceToNat, Int.reduceLT, Int.reduceLE, Int.reduceEq, ↓reduceIte, List.reverse_cons, Option.toList, List.cons_append, List.nil_append, vI_inj, vL_inj, vO_inj, rI, rL, rO, rV, mI_sQ, mL_sQ, mK_sQ, mS_sQ, mQ_s1, mQ_s2, iL_and, iL_or, iL_xor, iL_shl, iL_ushr, iR_and, iR_or, iR_xor, iR_shl, iR_shr, iR_ushr, iR_cmp, yc0, tlX2_ruleApplies, tkX2_ruleApplies, o_aload, o_getR, o_goto, o_iald, o_iand, o_ic, o_iceq, o_iclt, o_ifeq, o_iflt, o_iload, o_istore, o_lload, o_zret, k0, k2, r1, hcv, hz]
      try simp +contextual (disch := omega) only [impF, impT, and_true, true_and, implies_true, not_false_eq_true, not_true_eq_false]
      simp
    · have hz : ¬ z_and (vsO x c) cv = 0 := fun q => by rw [hea.mp q] at hb; cases hb
      refine z_run1 tsX2_ruleApplies [] 40 ?_
      simp (maxSteps := 1000000) -implicitDefEqProofs +contextual (disch := omega) only [z_wp_t, z_wp_u, ↓pI_e, ↓pL_e, ↓pO_e, ↓pR_e, ↓p1_I, ↓p1_O, z_gl, z_st1, z_st2, z_nl_I, z_nl_O, z_nl_J, z_nl_L, if_true, if_false, ite_true, ite_false, true_and, and_true, List.mem_cons, List.not_mem_nil, or_false, false_or, or_self, List.length_cons, List.length_nil, InR_t, InL_t, z_ix_t, mI_s1, mI_s2, ↓brT, ↓brF, ↓brT', ↓brF', mL_sI, mR_sI, mK_sI, mS_sI, mI_sL, mL_s1, mL_s2, mR_sL, mK_sL, mS_sL, mI_sR, mL_sR, mR_s1, mR_s2, mK_sR, mS_sR, mA_s1, mA_s2, mL_sA, mR_sA, mK_sA, mS_sA, ix_n, ix_a, ix_m, ix_s, z_sw, z_stop, forall_const, true_implies, false_implies, imp_self, implies_true, not_true_eq_false, not_false_eq_true, ne_eq, eq_self, Option.some.injEq, reduceCtorEq, Nat.reduceAdd, Nat.reduceSub, Nat.reduceMul, Nat.reduceEqDiff, Nat.reduceLT, Nat.reduceLeDiff, Int.reduceAdd, Int.reduceMul, Int.reduceSub, Int.reduceNeg, Int.reduceToNat, Int.reduceLT, Int.reduceLE, Int.reduceEq, ↓reduceIte, List.reverse_cons, Option.toList, List.cons_append, List.nil_append, vI_inj, vL_inj, vO_inj, rI, rL, rO, rV, mI_sQ, mL_sQ, mK_sQ, mS_sQ, mQ_s1, mQ_s2, iL_and, iL_or, iL_xor, iL_shl, iL_ushr, iR_and, iR_or, iR_xor, iR_shl, iR_shr, iR_ushr, iR_cmp, yc0, tlX2_ruleApplies, tkX2_ruleApplies, o_aload, o_getR, o_goto, o_iald, o_iand, o_ic, o_iceq, o_iclt, o_ifeq, o_iflt, o_iload, o_istore, o_lload, o_zret, k0, k2, r1, hcv, hz]
      try simp +contextual (disch := omega) only [impF, impT, and_true, true_and, implies_true, not_false_eq_true, not_true_eq_false]
      simp
