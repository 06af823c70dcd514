/-! the reference: narrowed, count -/
theorem narP_ge {A : zA} {S : Nat → Bool} (hS : ∀ r, S r = true → r < aC A) (X : Nat → Nat → Bool) : ∀ d, narP A S X (aC A + d) = narP A S X (aC A)
  | 0 => rfl
  | d + 1 => by
    show narP A S X (aC A + d + 1) = _
    simp only [narP]
    have : S (aC A + d) = false := by
      cases h : S (aC A + d)
      · rfl
      · have := hS _ h; omega
    rw [this, narP_ge hS X d]
    rfl
theorem narP_20 {A : zA} (hA : AOK A) {S : Nat → Bool} (hS : ∀ r, S r = true → r < aC A) (X : Nat → Nat → Bool) : narP A S X 20 = narP A S X (aC A) := by
  have := narP_ge hS X (20 - aC A)
  rw [show aC A + (20 - aC A) = 20 by have := hA.2.2.2.2.1; omega] at this
  exact this
def szX (X : Nat → Nat → Bool) : Nat := cnt (fun j => X (j / 5) (j % 5)) 40
theorem szX_lt {X Y : Nat → Nat → Bool} (hs : ∀ p v, Y p v = true → X p v = true) (hn : ¬ eqX Y X) : szX Y < szX X := by
  refine cnt_lt (fun i _ h => hs _ _ h) ?_
  have : ∃ p v, p < 8 ∧ v < 5 ∧ Y p v ≠ X p v := by
    apply Classical.byContradiction
    intro h
    apply hn
    intro p v hp hv
    apply Classical.byContradiction
    intro q
    exact h ⟨p, v, hp, hv, q⟩
  obtain ⟨p, v, hp, hv, hne⟩ := this
  refine ⟨5 * p + v, by omega, ?_⟩
  rw [show (5 * p + v) / 5 = p by omega, show (5 * p + v) % 5 = v by omega]
  cases hx : X p v
  · cases hy : Y p v
    · exact absurd (hy.trans hx.symm) hne
    · rw [hs p v hy] at hx; cases hx
  · cases hy : Y p v
    · exact ⟨rfl, rfl⟩
    · exact absurd (hy.trans hx.symm) hne
theorem tk_step2 {A : zA} {S : Nat → Bool} {X : Nat → Nat → Bool} {n : Nat} (hs : S n = true) : tkB (narP A S X (n + 1)) X = (tkB (narR A n (narP A S X n)) (narP A S X n) || tkB (narP A S X n) X) := by
  have e : narP A S X (n + 1) = narR A n (narP A S X n) := by simp only [narP, hs, if_true]
  rw [e]
  generalize hY : narP A S X n = Y
  have hsub : ∀ p v, Y p v = true → X p v = true := fun p v h => by rw [← hY] at h; exact narP_sub n h
  cases h1 : tkB (narR A n Y) Y
  · cases h2 : tkB Y X
    · exact tkB_iff.mpr ((tkB_iff.mp h1).tr (tkB_iff.mp h2))
    · cases h3 : tkB (narR A n Y) X
      · rw [tkB_iff.mpr ((tkB_iff.mp h1).sym.tr (tkB_iff.mp h3))] at h2; cases h2
      · rfl
  · cases h3 : tkB (narR A n Y) X
    · have h3 := tkB_iff.mp h3
      have : tkB (narR A n Y) Y = false := tkB_iff.mpr fun p v hp hv => by
        cases hy : Y p v
        · cases hr : narR A n Y p v
          · rfl
          · rw [nr_sub hr] at hy; cases hy
        · rw [h3 p v hp hv]; exact hsub p v hy
      rw [this] at h1
      cases h1
    · rfl
theorem narI_sub {A : zA} {S : Nat → Bool} {p v : Nat} : ∀ k, narI A S k p v = true → v ≤ aN A p
  | 0, h => by simpa [narI] using h
  | k + 1, h => narI_sub k (narP_sub 20 h)
theorem m15 : ∀ i : Nat, i < 32 → tb 15 i = decide (i < 4) := by decide +kernel
set_option maxRecDepth 4000 in
set_option maxHeartbeats 4000000 in
theorem mn_fin (l : Launch) (G : zG) (h : zH) (QQ : Option zV → zH → Prop) (s : zS) (P : Nat) (w : Int) (hM : MI h s) (hA : AOK (sW s)) (hP : P < 8) (hww : 0 ≤ w ∧ w ≤ 1) (hQ : mW h (if w = 0 then (na0 (sW s) P : Int) else b01 (narX (sW s) P 0), s) = QQ) (lv : Nat) (hlv : 4 ≤ lv) : ∀ (k : Nat) (h2 : zH), eqX (narP (sW s) (actS (sW s)) (narI (sW s) (actS (sW s)) k) 20) (narI (sW s) (actS (sW s)) k) → WK h h2 → PrOK h2 (sW s) (actS (sW s)) (narI (sW s) (actS (sW s)) k) → z_X l G mtX8_narrowed lv 0 0 (QQ) 0 0 (h2) 25 [vR 93, vI (P : Int), vI w, vI 0, vJ] [] := by
  intro k h2 hfx hW2 hP2
  obtain ⟨hS2, hm2, -⟩ := hM.wk hW2
  have c0 := hS2.1
  have c102 := hS2.2.2.1.1
  have s12 := hS2.2.2.2.2.1
  have mP := hP2.2 P hP
  have hN : NarOK (sW s) (actS (sW s)) (narI (sW s) (actS (sW s)) k) := ⟨⟨k, fun _ _ _ _ => rfl⟩, hfx⟩
  have hnx := narX_eq hA hN
  generalize hal : gI h2 102 P = al at mP
  have hmn := sm_many l G h2 (z_and al 15) 1 (by omega)
  have hcn : cnt (tb (z_and al 15)) 20 = na0 (sW s) P := by
    rw [cnt_congr (g := fun i => decide (i < 4) && narX (sW s) P (i + 1)) (fun i hi => by
      rw [tb_and, m15 i (by omega)]
      by_cases q : i < 4
      · have := mP.2 (i + 1) (by omega)
        rw [show opt (i + 1) = i from rfl] at this
        rw [this, hnx P (i + 1) hP (by omega)]
        simp [q]
      · simp [q])]
    exact cnt_lim (g := fun i => narX (sW s) P (i + 1)) 20 (by omega)
  rw [hcn] at hmn
  have hb4 := z_bit al (k := 4) (by omega)
  have e4 : tb al 4 = narX (sW s) P 0 := by
    have := mP.2 0 (by omega)
    rw [show opt 0 = 4 from rfl] at this
    rw [this, hnx P 0 hP (by omega)]
  rw [e4] at hb4
  have hb4 : z_and (z_shr al 4) 1 = b01 (narX (sW s) P 0) := hb4
  by_cases hw0 : w = 0
  · rw [if_pos hw0] at hQ
    subst hw0
    refine z_run1 tsX8_narrowed [] 20 ?_
    simp (maxSteps := 1000000) -implicitDefEqProofs +contextual (disch := omega) only [z_wp_t, z_wp_u, ↓pI_e, ↓pL_e, ↓pO_e, ↓pR_e, ↓p1_I, ↓p1_O, z_gl, z_st1, z_st2, z_nl_I, z_nl_O, z_nl_J, z_nl_L, if_true, if_false, ite_true, ite_false, true_and, and_true, List.mem_cons, List.not_mem_nil, or_false, false_or, or_self, List.length_cons, List.length_nil, InR_t, InL_t, z_ix_t, mI_s1, mI_s2, ↓brT, ↓brF, ↓brT', ↓brF', mL_sI, mR_sI, mK_sI, mS_sI, mI_sL, mL_s1, mL_s2, mR_sL, mK_sL, mS_sL, mI_sR, mL_sR, mR_s1, mR_s2, mK_sR, mS_sR, mA_s1, mA_s2, mL_sA, mR_sA, mK_sA, mS_sA, ix_n, ix_a, ix_m, ix_s, z_sw, z_stop, forall_const, true_implies, false_implies, imp_self, implies_true, not_true_eq_false, not_false_eq_true, ne_eq, eq_self, Option.some.injEq, reduceCtorEq, Nat.reduceAdd, Nat.reduceSub, Nat.reduceMul, Nat.reduceEqDiff, Nat.reduceLT, Nat.reduceLeDiff, Int.reduceAdd, Int.reduceMul, Int.reduceSub, Int.reduceNeg, Int.reduceToNat, Int.reduceLT, Int.reduceLE, Int.reduceEq, ↓reduceIte, List.reverse_cons, Option.toList, List.cons_append, List.nil_append, vI_inj, vL_inj, vO_inj, rI, rL, rO, rV, mI_sQ, mL_sQ, mK_sQ, mS_sQ, mQ_s1, mQ_s2, iL_and, iL_or, iL_xor, iL_shl, iL_ushr, iR_and, iR_or, iR_xor, iR_shl, iR_shr, iR_ushr, iR_cmp, yc0, tlX8_narrowed, tkX8_narrowed, o_aload, o_getR, o_goto, o_iald, o_iand, o_ic, o_icge, o_ifeq, o_ifne, o_iinc, o_iload, o_iret, o_ishr, o_istore, o_zald, c0, c102, s12, hal]
    try simp +contextual (disch := omega) only [impF, impT, and_true, true_and, implies_true, not_false_eq_true, not_true_eq_false]
    refine x_callS (by decide +kernel) cv_X8_148 (hmn) (by omega) rfl (by omega) (by omega) rfl (Nat.le_of_ble_eq_true rfl) ?_
    rintro r' h' ⟨rfl, hE⟩
    subst h'
    refine z_run1 tsX8_narrowed [] 20 ?_
    simp (maxSteps := 1000000) -implicitDefEqProofs +contextual (disch := omega) only [z_wp_t, z_wp_u, ↓pI_e, ↓pL_e, ↓pO_e, ↓pR_e, ↓p1_I, ↓p1_O, z_gl, z_st1, z_st2, z_nl_I, z_nl_O, z_nl_J, z_nl_L, if_true, if_false, ite_true, ite_false, true_and, and_true, List.mem_cons, List.not_mem_nil, or_false, false_or, or_self, List.length_cons, List.length_nil, InR_t, InL_t, z_ix_t, mI_s1, mI_s2, ↓brT, ↓brF, ↓brT', ↓brF', mL_sI, mR_sI, mK_sI, mS_sI, mI_sL, mL_s1, mL_s2, mR_sL, mK_sL, mS_sL, mI_sR, mL_sR, mR_s1, mR_s2, mK_sR, mS_sR, mA_s1, mA_s2, mL_sA, mR_sA, mK_sA, mS_sA, ix_n, ix_a, ix_m, ix_s, z_sw, z_stop, forall_const, true_implies, false_implies, imp_self, implies_true, not_true_eq_false, not_false_eq_true, ne_eq, eq_self, Option.some.injEq, reduceCtorEq, Nat.reduceAdd, Nat.reduceSub, Nat.reduceMul, Nat.reduceEqDiff, Nat.reduceLT, Nat.reduceLeDiff, Int.reduceAdd, Int.reduceMul, Int.reduceSub, Int.reduceNeg, Int.reduceToNat, Int.reduceLT, Int.reduceLE, Int.reduceEq, ↓reduceIte, List.reverse_cons, Option.toList, List.cons_append, List.nil_append, vI_inj, vL_inj, vO_inj, rI, rL, rO, rV, mI_sQ, mL_sQ, mK_sQ, mS_sQ, mQ_s1, mQ_s2, iL_and, iL_or, iL_xor, iL_shl, iL_ushr, iR_and, iR_or, iR_xor, iR_shl, iR_shr, iR_ushr, iR_cmp, yc0, tlX8_narrowed, tkX8_narrowed, o_aload, o_getR, o_goto, o_iald, o_iand, o_ic, o_icge, o_ifeq, o_ifne, o_iinc, o_iload, o_iret, o_ishr, o_istore, o_zald]
    try simp +contextual (disch := omega) only [impF, impT, and_true, true_and, implies_true, not_false_eq_true, not_true_eq_false]
    rw [← hQ]
    exact ⟨rfl, hM.wk hW2, hW2⟩
  · rw [if_neg hw0] at hQ
    refine z_run1 tsX8_narrowed [] 20 ?_
    simp (maxSteps := 1000000) -implicitDefEqProofs +contextual (disch := omega) only [z_wp_t, z_wp_u, ↓pI_e, ↓pL_e, ↓pO_e, ↓pR_e, ↓p1_I, ↓p1_O, z_gl, z_st1, z_st2, z_nl_I, z_nl_O, z_nl_J, z_nl_L, if_true, if_false, ite_true, ite_false, true_and, and_true, List.mem_cons, List.not_mem_nil, or_false, false_or, or_self, List.length_cons, List.length_nil, InR_t, InL_t, z_ix_t, mI_s1, mI_s2, ↓brT, ↓brF, ↓brT', ↓brF', mL_sI, mR_sI, mK_sI, mS_sI, mI_sL, mL_s1, mL_s2, mR_sL, mK_sL, mS_sL, mI_sR, mL_sR, mR_s1, mR_s2, mK_sR, mS_sR, mA_s1, mA_s2, mL_sA, mR_sA, mK_sA, mS_sA, ix_n, ix_a, ix_m, ix_s, z_sw, z_stop, forall_const, true_implies, false_implies, imp_self, implies_true, not_true_eq_false, not_false_eq_true, ne_eq, eq_self, Option.some.injEq, reduceCtorEq, Nat.reduceAdd, Nat.reduceSub, Nat.reduceMul, Nat.reduceEqDiff, Nat.reduceLT, Nat.reduceLeDiff, Int.reduceAdd, Int.reduceMul, Int.reduceSub, Int.reduceNeg, Int.reduceToNat, Int.reduceLT, Int.reduceLE, Int.reduceEq, ↓reduceIte, List.reverse_cons, Option.toList, List.cons_append, List.nil_append, vI_inj, vL_inj, vO_inj, rI, rL, rO, rV, mI_sQ, mL_sQ, mK_sQ, mS_sQ, mQ_s1, mQ_s2, iL_and, iL_or, iL_xor, iL_shl, iL_ushr, iR_and, iR_or, iR_xor, iR_shl, iR_shr, iR_ushr, iR_cmp, yc0, tlX8_narrowed, tkX8_narrowed, o_aload, o_getR, o_goto, o_iald, o_iand, o_ic, o_icge, o_ifeq, o_ifne, o_iinc, o_iload, o_iret, o_ishr, o_istore, o_zald, c0, c102, s12, hal, hb4]
    try simp +contextual (disch := omega) only [impF, impT, and_true, true_and, implies_true, not_false_eq_true, not_true_eq_false]
    rw [← hQ]
    exact ⟨rfl, hM.wk hW2, hW2⟩
set_option maxRecDepth 4000 in
set_option maxHeartbeats 4000000 in
theorem mn_pass (l : Launch) (G : zG) (h : zH) (QQ : Option zV → zH → Prop) (s : zS) (P : Nat) (w : Int) (hM : MI h s) (hA : AOK (sW s)) (hP : P < 8) (hww : 0 ≤ w ∧ w ≤ 1) (hQ : mW h (if w = 0 then (na0 (sW s) P : Int) else b01 (narX (sW s) P 0), s) = QQ) (lv : Nat) (hlv : 4 ≤ lv) : ∀ (k : Nat) (h2 : zH), WK h h2 → PrOK h2 (sW s) (actS (sW s)) (narI (sW s) (actS (sW s)) k) → (∀ h3, WK h h3 → PrOK h3 (sW s) (actS (sW s)) (narI (sW s) (actS (sW s)) (k + 1)) → z_X l G mtX8_narrowed lv 0 0 (QQ) 0 0 (h3) 25 [vR 93, vI (P : Int), vI w, vI (b01 (tkB (narI (sW s) (actS (sW s)) (k + 1)) (narI (sW s) (actS (sW s)) k))), vJ] []) → z_X l G mtX8_narrowed lv 0 0 (QQ) 0 0 (h2) 25 [vR 93, vI (P : Int), vI w, vI 1, vJ] [] := by
  have h20 := hA.2.2.2.2.1
  intro k h2 hW2 hP2 Kont
  have ek : narI (sW s) (actS (sW s)) (k + 1) = narP (sW s) (actS (sW s)) (narI (sW s) (actS (sW s)) k) (aC (sW s)) := narP_20 hA act_lt _
  rw [ek] at Kont
  have hsub := fun p v => narI_sub (A := sW s) (S := actS (sW s)) (p := p) (v := v) k
  generalize narI (sW s) (actS (sW s)) k = X at *
  have inner : ∀ (d n : Nat) (h3 : zH), n + d = aC (sW s) → WK h h3 → PrOK h3 (sW s) (actS (sW s)) (narP (sW s) (actS (sW s)) X n) → z_X l G mtX8_narrowed lv 0 0 (QQ) 0 0 (h3) 34 [vR 93, vI (P : Int), vI w, vI (b01 (tkB (narP (sW s) (actS (sW s)) X n) X)), vI n] [] := by
    intro d
    induction d with
    | zero =>
      intro n h3 hn hW3 hP3
      obtain rfl : n = aC (sW s) := by omega
      obtain ⟨hS3, hm3, -⟩ := hM.wk hW3
      have c0 := hS3.1
      have c94 := hS3.2.1.1
      have s0 := hS3.2.2.2.1.1
      have e49 := hm3.2.2.2.2.1
      have hk := Kont h3 hW3 hP3
      refine z_run1 tsX8_narrowed [25] 20 ?_
      simp (maxSteps := 1000000) -implicitDefEqProofs +contextual (disch := omega) only [z_wp_t, z_wp_u, ↓pI_e, ↓pL_e, ↓pO_e, ↓pR_e, ↓p1_I, ↓p1_O, z_gl, z_st1, z_st2, z_nl_I, z_nl_O, z_nl_J, z_nl_L, if_true, if_false, ite_true, ite_false, true_and, and_true, List.mem_cons, List.not_mem_nil, or_false, false_or, or_self, List.length_cons, List.length_nil, InR_t, InL_t, z_ix_t, mI_s1, mI_s2, ↓brT, ↓brF, ↓brT', ↓brF', mL_sI, mR_sI, mK_sI, mS_sI, mI_sL, mL_s1, mL_s2, mR_sL, mK_sL, mS_sL, mI_sR, mL_sR, mR_s1, mR_s2, mK_sR, mS_sR, mA_s1, mA_s2, mL_sA, mR_sA, mK_sA, mS_sA, ix_n, ix_a, ix_m, ix_s, z_sw, z_stop, forall_const, true_implies, false_implies, imp_self, implies_true, not_true_eq_false, not_false_eq_true, ne_eq, eq_self, Option.some.injEq, reduceCtorEq, Nat.reduceAdd, Nat.reduceSub, Nat.reduceMul, Nat.reduceEqDiff, Nat.reduceLT, Nat.reduceLeDiff, Int.reduceAdd, Int.reduceMul, Int.reduceSub, Int.reduceNeg, Int.reduceToNat, Int.reduceLT, Int.reduceLE, Int.reduceEq, ↓reduceIte, List.reverse_cons, Option.toList, List.cons_append, List.nil_append, vI_inj, vL_inj, vO_inj, rI, rL, rO, rV, mI_sQ, mL_sQ, mK_sQ, mS_sQ, mQ_s1, mQ_s2, iL_and, iL_or, iL_xor, iL_shl, iL_ushr, iR_and, iR_or, iR_xor, iR_shl, iR_shr, iR_ushr, iR_cmp, yc0, tlX8_narrowed, tkX8_narrowed, o_aload, o_getR, o_goto, o_iald, o_iand, o_ic, o_icge, o_ifeq, o_ifne, o_iinc, o_iload, o_iret, o_ishr, o_istore, o_zald, c0, c94, s0, e49]
      try simp +contextual (disch := omega) only [impF, impT, and_true, true_and, implies_true, not_false_eq_true, not_true_eq_false]
      refine x_wk [vR 93, vI (P : Int), vI w, vI (b01 (tkB (narP (sW s) (actS (sW s)) X (aC (sW s))) X)), vJ] (by simp [z_wk]) ?_
      exact hk
    | succ d ih =>
      intro n h3 hn hW3 hP3
      have hnc : n < aC (sW s) := by omega
      obtain ⟨hS3, hm3, -⟩ := hM.wk hW3
      have c0 := hS3.1
      have c94 := hS3.2.1.1
      have c101 := hS3.2.1.2.2.2.2.2.2.2
      have s0 := hS3.2.2.2.1.1
      have s11 := hS3.2.2.2.1.2.2.2.2.2.2.2
      have e49 := hm3.2.2.2.2.1
      have p1 := (hP3.1 n hnc).1
      unfold b01 at p1
      have hb := b01_c (tkB (narP (sW s) (actS (sW s)) X n) X)
      cases hs : actS (sW s) n
      · rw [hs] at p1
        simp only [Bool.false_eq_true, if_false] at p1
        have e : narP (sW s) (actS (sW s)) X (n + 1) = narP (sW s) (actS (sW s)) X n := by simp only [narP, hs]; rfl
        have hnx := ih (n + 1) h3 (by omega) hW3 (by rw [e]; exact hP3)
        rw [e] at hnx
        generalize b01 (tkB (narP (sW s) (actS (sW s)) X n) X) = mo at hb hnx
        rcases hb with rfl | rfl
        · refine z_run1 tsX8_narrowed [34] 30 ?_
          simp (maxSteps := 1000000) -implicitDefEqProofs +contextual (disch := omega) only [z_wp_t, z_wp_u, ↓pI_e, ↓pL_e, ↓pO_e, ↓pR_e, ↓p1_I, ↓p1_O, z_gl, z_st1, z_st2, z_nl_I, z_nl_O, z_nl_J, z_nl_L, if_true, if_false, ite_true, ite_false, true_and, and_true, List.mem_cons, List.not_mem_nil, or_false, false_or, or_self, List.length_cons, List.length_nil, InR_t, InL_t, z_ix_t, mI_s1, mI_s2, ↓brT, ↓brF, ↓brT', ↓brF', mL_sI, mR_sI, mK_sI, mS_sI, mI_sL, mL_s1, mL_s2, mR_sL, mK_sL, mS_sL, mI_sR, mL_sR, mR_s1, mR_s2, mK_sR, mS_sR, mA_s1, mA_s2, mL_sA, mR_sA, mK_sA, mS_sA, ix_n, ix_a, ix_m, ix_s, z_sw, z_stop, forall_const, true_implies, false_implies, imp_self, implies_true, not_true_eq_false, not_false_eq_true, ne_eq, eq_self, Option.some.injEq, reduceCtorEq, Nat.reduceAdd, Nat.reduceSub, Nat.reduceMul, Nat.reduceEqDiff, Nat.reduceLT, Nat.reduceLeDiff, Int.reduceAdd, Int.reduceMul, Int.reduceSub, Int.reduceNeg, Int.reduceToNat, Int.reduceLT, Int.reduceLE, Int.reduceEq, ↓reduceIte, List.reverse_cons, Option.toList, List.cons_append, List.nil_append, vI_inj, vL_inj, vO_inj, rI, rL, rO, rV, mI_sQ, mL_sQ, mK_sQ, mS_sQ, mQ_s1, mQ_s2, iL_and, iL_or, iL_xor, iL_shl, iL_ushr, iR_and, iR_or, iR_xor, iR_shl, iR_shr, iR_ushr, iR_cmp, yc0, tlX8_narrowed, tkX8_narrowed, o_aload, o_getR, o_goto, o_iald, o_iand, o_ic, o_icge, o_ifeq, o_ifne, o_iinc, o_iload, o_iret, o_ishr, o_istore, o_zald, c0, c94, c101, s0, s11, e49, p1]
          try simp +contextual (disch := omega) only [impF, impT, and_true, true_and, implies_true, not_false_eq_true, not_true_eq_false]
          exact hnx
        · refine z_run1 tsX8_narrowed [34] 30 ?_
          simp (maxSteps := 1000000) -implicitDefEqProofs +contextual (disch := omega) only [z_wp_t, z_wp_u, ↓pI_e, ↓pL_e, ↓pO_e, ↓pR_e, ↓p1_I, ↓p1_O, z_gl, z_st1, z_st2, z_nl_I, z_nl_O, z_nl_J, z_nl_L, if_true, if_false, ite_true, ite_false, true_and, and_true, List.mem_cons, List.not_mem_nil, or_false, false_or, or_self, List.length_cons, List.length_nil, InR_t, InL_t, z_ix_t, mI_s1, mI_s2, ↓brT, ↓brF, ↓brT', ↓brF', mL_sI, mR_sI, mK_sI, mS_sI, mI_sL, mL_s1, mL_s2, mR_sL, mK_sL, mS_sL, mI_sR, mL_sR, mR_s1, mR_s2, mK_sR, mS_sR, mA_s1, mA_s2, mL_sA, mR_sA, mK_sA, mS_sA, ix_n, ix_a, ix_m, ix_s, z_sw, z_stop, forall_const, true_implies, false_implies, imp_self, implies_true, not_true_eq_false, not_false_eq_true, ne_eq, eq_self, Option.some.injEq, reduceCtorEq, Nat.reduceAdd, Nat.reduceSub, Nat.reduceMul, Nat.reduceEqDiff, Nat.reduceLT, Nat.reduceLeDiff, Int.reduceAdd, Int.reduceMul, Int.reduceSub, Int.reduceNeg, Int.reduceToNat, Int.reduceLT, Int.reduceLE, Int.reduceEq, ↓reduceIte, List.reverse_cons, Option.toList, List.cons_append, List.nil_append, vI_inj, vL_inj, vO_inj, rI, rL, rO, rV, mI_sQ, mL_sQ, mK_sQ, mS_sQ, mQ_s1, mQ_s2, iL_and, iL_or, iL_xor, iL_shl, iL_ushr, iR_and, iR_or, iR_xor, iR_shl, iR_shr, iR_ushr, iR_cmp, yc0, tlX8_narrowed, tkX8_narrowed, o_aload, o_getR, o_goto, o_iald, o_iand, o_ic, o_icge, o_ifeq, o_ifne, o_iinc, o_iload, o_iret, o_ishr, o_istore, o_zald, c0, c94, c101, s0, s11, e49, p1]
          try simp +contextual (disch := omega) only [impF, impT, and_true, true_and, implies_true, not_false_eq_true, not_true_eq_false]
          exact hnx
      · rw [hs] at p1
        simp only [if_true] at p1
        have e : narP (sW s) (actS (sW s)) X (n + 1) = narR (sW s) n (narP (sW s) (actS (sW s)) X n) := by simp only [narP, hs, if_true]
        have htk := tk_step2 (A := sW s) (X := X) hs
        refine z_run1 tsX8_narrowed [] 30 ?_
        simp (maxSteps := 1000000) -implicitDefEqProofs +contextual (disch := omega) only [z_wp_t, z_wp_u, ↓pI_e, ↓pL_e, ↓pO_e, ↓pR_e, ↓p1_I, ↓p1_O, z_gl, z_st1, z_st2, z_nl_I, z_nl_O, z_nl_J, z_nl_L, if_true, if_false, ite_true, ite_false, true_and, and_true, List.mem_cons, List.not_mem_nil, or_false, false_or, or_self, List.length_cons, List.length_nil, InR_t, InL_t, z_ix_t, mI_s1, mI_s2, ↓brT, ↓brF, ↓brT', ↓brF', mL_sI, mR_sI, mK_sI, mS_sI, mI_sL, mL_s1, mL_s2, mR_sL, mK_sL, mS_sL, mI_sR, mL_sR, mR_s1, mR_s2, mK_sR, mS_sR, mA_s1, mA_s2, mL_sA, mR_sA, mK_sA, mS_sA, ix_n, ix_a, ix_m, ix_s, z_sw, z_stop, forall_const, true_implies, false_implies, imp_self, implies_true, not_true_eq_false, not_false_eq_true, ne_eq, eq_self, Option.some.injEq, reduceCtorEq, Nat.reduceAdd, Nat.reduceSub, Nat.reduceMul, Nat.reduceEqDiff, Nat.reduceLT, Nat.reduceLeDiff, Int.reduceAdd, Int.reduceMul, Int.reduceSub, Int.reduceNeg, Int.reduceToNat, Int.reduceLT, Int.reduceLE, Int.reduceEq, ↓reduceIte, List.reverse_cons, Option.toList, List.cons_append, List.nil_append, vI_inj, vL_inj, vO_inj, rI, rL, rO, rV, mI_sQ, mL_sQ, mK_sQ, mS_sQ, mQ_s1, mQ_s2, iL_and, iL_or, iL_xor, iL_shl, iL_ushr, iR_and, iR_or, iR_xor, iR_shl, iR_shr, iR_ushr, iR_cmp, yc0, tlX8_narrowed, tkX8_narrowed, o_aload, o_getR, o_goto, o_iald, o_iand, o_ic, o_icge, o_ifeq, o_ifne, o_iinc, o_iload, o_iret, o_ishr, o_istore, o_zald, c0, c94, c101, s0, s11, e49, p1]
        try simp +contextual (disch := omega) only [impF, impT, and_true, true_and, implies_true, not_false_eq_true, not_true_eq_false]
        refine x_callV (by decide +kernel) cv_X8_194 (sm_narrowsBy l G h3 n (sW s) (actS (sW s)) _ hS3 hm3 hA hnc hP3 (fun p v hp hv hx => hsub p v (narP_sub n hx)) 2 (by omega)) c0 (by omega) rfl (by omega) (by omega) rfl (Nat.le_of_ble_eq_true rfl) ?_
        rintro r' h4 ⟨rfl, f4, hR4, hP4⟩
        have hW4 := hW3.tr (WK.w f4 hR4 (fun c q => by omega))
        have hnx := ih (n + 1) h4 (by omega) hW4 (by rw [e]; exact hP4)
        rw [htk] at hnx
        cases ht : tkB (narR (sW s) n (narP (sW s) (actS (sW s)) X n)) (narP (sW s) (actS (sW s)) X n)
        · rw [ht, Bool.false_or] at hnx
          rw [show b01 false = 0 from rfl]
          generalize b01 (tkB (narP (sW s) (actS (sW s)) X n) X) = mo at hb hnx
          rcases hb with rfl | rfl
          · refine z_run1 tsX8_narrowed [34] 30 ?_
            simp (maxSteps := 1000000) -implicitDefEqProofs +contextual (disch := omega) only [z_wp_t, z_wp_u, ↓pI_e, ↓pL_e, ↓pO_e, ↓pR_e, ↓p1_I, ↓p1_O, z_gl, z_st1, z_st2, z_nl_I, z_nl_O, z_nl_J, z_nl_L, if_true, if_false, ite_true, ite_false, true_and, and_true, List.mem_cons, List.not_mem_nil, or_false, false_or, or_self, List.length_cons, List.length_nil, InR_t, InL_t, z_ix_t, mI_s1, mI_s2, ↓brT, ↓brF, ↓brT', ↓brF', mL_sI, mR_sI, mK_sI, mS_sI, mI_sL, mL_s1, mL_s2, mR_sL, mK_sL, mS_sL, mI_sR, mL_sR, mR_s1, mR_s2, mK_sR, mS_sR, mA_s1, mA_s2, mL_sA, mR_sA, mK_sA, mS_sA, ix_n, ix_a, ix_m, ix_s, z_sw, z_stop, forall_const, true_implies, false_implies, imp_self, implies_true, not_true_eq_false, not_false_eq_true, ne_eq, eq_self, Option.some.injEq, reduceCtorEq, Nat.reduceAdd, Nat.reduceSub, Nat.reduceMul, Nat.reduceEqDiff, Nat.reduceLT, Nat.reduceLeDiff, Int.reduceAdd, Int.reduceMul, Int.reduceSub, Int.reduceNeg, Int.reduceToNat, Int.reduceLT, Int.reduceLE, Int.reduceEq, ↓reduceIte, List.reverse_cons, Option.toList, List.cons_append, List.nil_append, vI_inj, vL_inj, vO_inj, rI, rL, rO, rV, mI_sQ, mL_sQ, mK_sQ, mS_sQ, mQ_s1, mQ_s2, iL_and, iL_or, iL_xor, iL_shl, iL_ushr, iR_and, iR_or, iR_xor, iR_shl, iR_shr, iR_ushr, iR_cmp, yc0, tlX8_narrowed, tkX8_narrowed, o_aload, o_getR, o_goto, o_iald, o_iand, o_ic, o_icge, o_ifeq, o_ifne, o_iinc, o_iload, o_iret, o_ishr, o_istore, o_zald]
            try simp +contextual (disch := omega) only [impF, impT, and_true, true_and, implies_true, not_false_eq_true, not_true_eq_false]
            exact hnx
          · refine z_run1 tsX8_narrowed [34] 30 ?_
            simp (maxSteps := 1000000) -implicitDefEqProofs +contextual (disch := omega) only [z_wp_t, z_wp_u, ↓pI_e, ↓pL_e, ↓pO_e, ↓pR_e, ↓p1_I, ↓p1_O, z_gl, z_st1, z_st2, z_nl_I, z_nl_O, z_nl_J, z_nl_L, if_true, if_false, ite_true, ite_false, true_and, and_true, List.mem_cons, List.not_mem_nil, or_false, false_or, or_self, List.length_cons, List.length_nil, InR_t, InL_t, z_ix_t, mI_s1, mI_s2, ↓brT, ↓brF, ↓brT', ↓brF', mL_sI, mR_sI, mK_sI, mS_sI, mI_sL, mL_s1, mL_s2, mR_sL, mK_sL, mS_sL, mI_sR, mL_sR, mR_s1, mR_s2, mK_sR, mS_sR, mA_s1, mA_s2, mL_sA, mR_sA, mK_sA, mS_sA, ix_n, ix_a, ix_m, ix_s, z_sw, z_stop, forall_const, true_implies, false_implies, imp_self, implies_true, not_true_eq_false, not_false_eq_true, ne_eq, eq_self, Option.some.injEq, reduceCtorEq, Nat.reduceAdd, Nat.reduceSub, Nat.reduceMul, Nat.reduceEqDiff, Nat.reduceLT, Nat.reduceLeDiff, Int.reduceAdd, Int.reduceMul, Int.reduceSub, Int.reduceNeg, Int.reduceToNat, Int.reduceLT, Int.reduceLE, Int.reduceEq, ↓reduceIte, List.reverse_cons, Option.toList, List.cons_append, List.nil_append, vI_inj, vL_inj, vO_inj, rI, rL, rO, rV, mI_sQ, mL_sQ, mK_sQ, mS_sQ, mQ_s1, mQ_s2, iL_and, iL_or, iL_xor, iL_shl, iL_ushr, iR_and, iR_or, iR_xor, iR_shl, iR_shr, iR_ushr, iR_cmp, yc0, tlX8_narrowed, tkX8_narrowed, o_aload, o_getR, o_goto, o_iald, o_iand, o_ic, o_icge, o_ifeq, o_ifne, o_iinc, o_iload, o_iret, o_ishr, o_istore, o_zald]
            try simp +contextual (disch := omega) only [impF, impT, and_true, true_and, implies_true, not_false_eq_true, not_true_eq_false]
            exact hnx
        · rw [ht, Bool.true_or, show b01 true = 1 from rfl] at hnx
          rw [show b01 true = 1 from rfl]
          refine z_run1 tsX8_narrowed [34] 30 ?_
          simp (maxSteps := 1000000) -implicitDefEqProofs +contextual (disch := omega) only [z_wp_t, z_wp_u, ↓pI_e, ↓pL_e, ↓pO_e, ↓pR_e, ↓p1_I, ↓p1_O, z_gl, z_st1, z_st2, z_nl_I, z_nl_O, z_nl_J, z_nl_L, if_true, if_false, ite_true, ite_false, true_and, and_true, List.mem_cons, List.not_mem_nil, or_false, false_or, or_self, List.length_cons, List.length_nil, InR_t, InL_t, z_ix_t, mI_s1, mI_s2, ↓brT, ↓brF, ↓brT', ↓brF', mL_sI, mR_sI, mK_sI, mS_sI, mI_sL, mL_s1, mL_s2, mR_sL, mK_sL, mS_sL, mI_sR, mL_sR, mR_s1, mR_s2, mK_sR, mS_sR, mA_s1, mA_s2, mL_sA, mR_sA, mK_sA, mS_sA, ix_n, ix_a, ix_m, ix_s, z_sw, z_stop, forall_const, true_implies, false_implies, imp_self, implies_true, not_true_eq_false, not_false_eq_true, ne_eq, eq_self, Option.some.injEq, reduceCtorEq, Nat.reduceAdd, Nat.reduceSub, Nat.reduceMul, Nat.reduceEqDiff, Nat.reduceLT, Nat.reduceLeDiff, Int.reduceAdd, Int.reduceMul, Int.reduceSub, Int.reduceNeg, Int.reduceToNat, Int.reduceLT, Int.reduceLE, Int.reduceEq, ↓reduceIte, List.reverse_cons, Option.toList, List.cons_append, List.nil_append, vI_inj, vL_inj, vO_inj, rI, rL, rO, rV, mI_sQ, mL_sQ, mK_sQ, mS_sQ, mQ_s1, mQ_s2, iL_and, iL_or, iL_xor, iL_shl, iL_ushr, iR_and, iR_or, iR_xor, iR_shl, iR_shr, iR_ushr, iR_cmp, yc0, tlX8_narrowed, tkX8_narrowed, o_aload, o_getR, o_goto, o_iald, o_iand, o_ic, o_icge, o_ifeq, o_ifne, o_iinc, o_iload, o_iret, o_ishr, o_istore, o_zald]
          try simp +contextual (disch := omega) only [impF, impT, and_true, true_and, implies_true, not_false_eq_true, not_true_eq_false]
          exact hnx
  have h0 := inner (aC (sW s)) 0 h2 (by omega) hW2 hP2
  rw [show tkB (narP (sW s) (actS (sW s)) X 0) X = false from tkB_iff.mpr (fun _ _ _ _ => rfl), show b01 false = 0 from rfl] at h0
  refine z_run1 tsX8_narrowed [34] 20 ?_
  simp (maxSteps := 1000000) -implicitDefEqProofs +contextual (disch := omega) only [z_wp_t, z_wp_u, ↓pI_e, ↓pL_e, ↓pO_e, ↓pR_e, ↓p1_I, ↓p1_O, z_gl, z_st1, z_st2, z_nl_I, z_nl_O, z_nl_J, z_nl_L, if_true, if_false, ite_true, ite_false, true_and, and_true, List.mem_cons, List.not_mem_nil, or_false, false_or, or_self, List.length_cons, List.length_nil, InR_t, InL_t, z_ix_t, mI_s1, mI_s2, ↓brT, ↓brF, ↓brT', ↓brF', mL_sI, mR_sI, mK_sI, mS_sI, mI_sL, mL_s1, mL_s2, mR_sL, mK_sL, mS_sL, mI_sR, mL_sR, mR_s1, mR_s2, mK_sR, mS_sR, mA_s1, mA_s2, mL_sA, mR_sA, mK_sA, mS_sA, ix_n, ix_a, ix_m, ix_s, z_sw, z_stop, forall_const, true_implies, false_implies, imp_self, implies_true, not_true_eq_false, not_false_eq_true, ne_eq, eq_self, Option.some.injEq, reduceCtorEq, Nat.reduceAdd, Nat.reduceSub, Nat.reduceMul, Nat.reduceEqDiff, Nat.reduceLT, Nat.reduceLeDiff, Int.reduceAdd, Int.reduceMul, Int.reduceSub, Int.reduceNeg, Int.reduceToNat, Int.reduceLT, Int.reduceLE, Int.reduceEq, ↓reduceIte, List.reverse_cons, Option.toList, List.cons_append, List.nil_append, vI_inj, vL_inj, vO_inj, rI, rL, rO, rV, mI_sQ, mL_sQ, mK_sQ, mS_sQ, mQ_s1, mQ_s2, iL_and, iL_or, iL_xor, iL_shl, iL_ushr, iR_and, iR_or, iR_xor, iR_shl, iR_shr, iR_ushr, iR_cmp, yc0, tlX8_narrowed, tkX8_narrowed, o_aload, o_getR, o_goto, o_iald, o_iand, o_ic, o_icge, o_ifeq, o_ifne, o_iinc, o_iload, o_iret, o_ishr, o_istore, o_zald]
  try simp +contextual (disch := omega) only [impF, impT, and_true, true_and, implies_true, not_false_eq_true, not_true_eq_false]
  exact h0
set_option maxRecDepth 4000 in
set_option maxHeartbeats 4000000 in
theorem mn_out (l : Launch) (G : zG) (h : zH) (QQ : Option zV → zH → Prop) (s : zS) (P : Nat) (w : Int) (hM : MI h s) (hA : AOK (sW s)) (hP : P < 8) (hww : 0 ≤ w ∧ w ≤ 1) (hQ : mW h (if w = 0 then (na0 (sW s) P : Int) else b01 (narX (sW s) P 0), s) = QQ) (lv : Nat) (hlv : 4 ≤ lv) : ∀ (N k : Nat) (h2 : zH), szX (narI (sW s) (actS (sW s)) k) ≤ N → WK h h2 → PrOK h2 (sW s) (actS (sW s)) (narI (sW s) (actS (sW s)) k) → z_X l G mtX8_narrowed lv 0 0 (QQ) 0 0 (h2) 25 [vR 93, vI (P : Int), vI w, vI 1, vJ] [] := by
  have fin := mn_fin l G h QQ s P w hM hA hP hww hQ lv hlv
  have pass := mn_pass l G h QQ s P w hM hA hP hww hQ lv hlv
  intro N
  induction N with
  | zero =>
    intro k h2 hN hW2 hP2
    refine pass k h2 hW2 hP2 (fun h3 hW3 hP3 => ?_)
    cases ht : tkB (narI (sW s) (actS (sW s)) (k + 1)) (narI (sW s) (actS (sW s)) k)
    · exact fin (k + 1) h3 (narP_c hA act_lt (tkB_iff.mp ht) 20) hW3 hP3
    · have := szX_lt (X := narI (sW s) (actS (sW s)) k) (Y := narI (sW s) (actS (sW s)) (k + 1)) (fun p v h => narP_sub 20 h) (fun q => by rw [tkB_iff.mpr q] at ht; cases ht)
      omega
  | succ N ih =>
    intro k h2 hN hW2 hP2
    refine pass k h2 hW2 hP2 (fun h3 hW3 hP3 => ?_)
    cases ht : tkB (narI (sW s) (actS (sW s)) (k + 1)) (narI (sW s) (actS (sW s)) k)
    · exact fin (k + 1) h3 (narP_c hA act_lt (tkB_iff.mp ht) 20) hW3 hP3
    · have := szX_lt (X := narI (sW s) (actS (sW s)) k) (Y := narI (sW s) (actS (sW s)) (k + 1)) (fun p v h => narP_sub 20 h) (fun q => by rw [tkB_iff.mpr q] at ht; cases ht)
      exact ih (k + 1) h3 (by omega) hW3 hP3
set_option maxRecDepth 4000 in
set_option maxHeartbeats 4000000 in
theorem sm_narrowed (l : Launch) (G : zG) (h : zH) (s : zS) (p w : Int) (hM : MI h s) (hp : InR p) (hw : InR w) (lv : Nat) (hlv : 4 ≤ lv) : z_Sp l G mtX8_narrowed lv 0 0 [vR 93, vI p, vI w] (h) (mW h (fNarrowed s p w, s)) := by
  refine x_enter [vR 93, vI p, vI w, vJ, vJ] (by decide +kernel) (by omega) rfl (Nat.le_of_ble_eq_true rfl) ?_
  generalize hQ : mW h (fNarrowed s p w, s) = QQ
  obtain ⟨hS, hm, hH, hT, hA⟩ := id hM
  have k0 := hS.1
  have hw' := hw
  unfold InR at hw'
  have h20 := hA.2.2.2.2.1
  refine z_run1 tsX8_narrowed [] 20 ?_
  simp (maxSteps := 1000000) -implicitDefEqProofs +contextual (disch := omega) only [z_wp_t, z_wp_u, ↓pI_e, ↓pL_e, ↓pO_e, ↓pR_e, ↓p1_I, ↓p1_O, z_gl, z_st1, z_st2, z_nl_I, z_nl_O, z_nl_J, z_nl_L, if_true, if_false, ite_true, ite_false, true_and, and_true, List.mem_cons, List.not_mem_nil, or_false, false_or, or_self, List.length_cons, List.length_nil, InR_t, InL_t, z_ix_t, mI_s1, mI_s2, ↓brT, ↓brF, ↓brT', ↓brF', mL_sI, mR_sI, mK_sI, mS_sI, mI_sL, mL_s1, mL_s2, mR_sL, mK_sL, mS_sL, mI_sR, mL_sR, mR_s1, mR_s2, mK_sR, mS_sR, mA_s1, mA_s2, mL_sA, mR_sA, mK_sA, mS_sA, ix_n, ix_a, ix_m, ix_s, z_sw, z_stop, forall_const, true_implies, false_implies, imp_self, implies_true, not_true_eq_false, not_false_eq_true, ne_eq, eq_self, Option.some.injEq, reduceCtorEq, Nat.reduceAdd, Nat.reduceSub, Nat.reduceMul, Nat.reduceEqDiff, Nat.reduceLT, Nat.reduceLeDiff, Int.reduceAdd, Int.reduceMul, Int.reduceSub, Int.reduceNeg, Int.reduceToNat, Int.reduceLT, Int.reduceLE, Int.reduceEq, ↓reduceIte, List.reverse_cons, Option.toList, List.cons_append, List.nil_append, vI_inj, vL_inj, vO_inj, rI, rL, rO, rV, mI_sQ, mL_sQ, mK_sQ, mS_sQ, mQ_s1, mQ_s2, iL_and, iL_or, iL_xor, iL_shl, iL_ushr, iR_and, iR_or, iR_xor, iR_shl, iR_shr, iR_ushr, iR_cmp, yc0, tlX8_narrowed, tkX8_narrowed, o_aload, o_getR, o_goto, o_iald, o_iand, o_ic, o_icge, o_ifeq, o_ifne, o_iinc, o_iload, o_iret, o_ishr, o_istore, o_zald]
  try simp +contextual (disch := omega) only [impF, impT, and_true, true_and, implies_true, not_false_eq_true, not_true_eq_false]
  refine x_callS (by decide +kernel) cv_X8_64 (sm_isPack l G h p hp 2 (by omega)) (by omega) rfl (by omega) (by omega) rfl (Nat.le_of_ble_eq_true rfl) ?_
  rintro r h' ⟨rfl, hE⟩
  subst h'
  cases hop : okP p
  · simp only [Bool.false_eq_true, if_false]
    refine z_run1 tsX8_narrowed [] 20 ?_
    simp (maxSteps := 1000000) -implicitDefEqProofs +contextual (disch := omega) only [z_wp_t, z_wp_u, ↓pI_e, ↓pL_e, ↓pO_e, ↓pR_e, ↓p1_I, ↓p1_O, z_gl, z_st1, z_st2, z_nl_I, z_nl_O, z_nl_J, z_nl_L, if_true, if_false, ite_true, ite_false, true_and, and_true, List.mem_cons, List.not_mem_nil, or_false, false_or, or_self, List.length_cons, List.length_nil, InR_t, InL_t, z_ix_t, mI_s1, mI_s2, ↓brT, ↓brF, ↓brT', ↓brF', mL_sI, mR_sI, mK_sI, mS_sI, mI_sL, mL_s1, mL_s2, mR_sL, mK_sL, mS_sL, mI_sR, mL_sR, mR_s1, mR_s2, mK_sR, mS_sR, mA_s1, mA_s2, mL_sA, mR_sA, mK_sA, mS_sA, ix_n, ix_a, ix_m, ix_s, z_sw, z_stop, forall_const, true_implies, false_implies, imp_self, implies_true, not_true_eq_false, not_false_eq_true, ne_eq, eq_self, Option.some.injEq, reduceCtorEq, Nat.reduceAdd, Nat.reduceSub, Nat.reduceMul, Nat.reduceEqDiff, Nat.reduceLT, Nat.reduceLeDiff, Int.reduceAdd, Int.reduceMul, Int.reduceSub, Int.reduceNeg, Int.reduceToNat, Int.reduceLT, Int.reduceLE, Int.reduceEq, ↓reduceIte, List.reverse_cons, Option.toList, List.cons_append, List.nil_append, vI_inj, vL_inj, vO_inj, rI, rL, rO, rV, mI_sQ, mL_sQ, mK_sQ, mS_sQ, mQ_s1, mQ_s2, iL_and, iL_or, iL_xor, iL_shl, iL_ushr, iR_and, iR_or, iR_xor, iR_shl, iR_shr, iR_ushr, iR_cmp, yc0, tlX8_narrowed, tkX8_narrowed, o_aload, o_getR, o_goto, o_iald, o_iand, o_ic, o_icge, o_ifeq, o_ifne, o_iinc, o_iload, o_iret, o_ishr, o_istore, o_zald]
    try simp +contextual (disch := omega) only [impF, impT, and_true, true_and, implies_true, not_false_eq_true, not_true_eq_false]
    rw [← hQ, fNarrowed, hop]
    exact ⟨rfl, hM, WK.rf⟩
  · simp only [if_true]
    have hp2 := okP_t hop
    obtain ⟨P, rfl⟩ := Int.eq_ofNat_of_zero_le hp2.1
    have hP : P < 8 := by omega
    refine z_run1 tsX8_narrowed [] 20 ?_
    simp (maxSteps := 1000000) -implicitDefEqProofs +contextual (disch := omega) only [z_wp_t, z_wp_u, ↓pI_e, ↓pL_e, ↓pO_e, ↓pR_e, ↓p1_I, ↓p1_O, z_gl, z_st1, z_st2, z_nl_I, z_nl_O, z_nl_J, z_nl_L, if_true, if_false, ite_true, ite_false, true_and, and_true, List.mem_cons, List.not_mem_nil, or_false, false_or, or_self, List.length_cons, List.length_nil, InR_t, InL_t, z_ix_t, mI_s1, mI_s2, ↓brT, ↓brF, ↓brT', ↓brF', mL_sI, mR_sI, mK_sI, mS_sI, mI_sL, mL_s1, mL_s2, mR_sL, mK_sL, mS_sL, mI_sR, mL_sR, mR_s1, mR_s2, mK_sR, mS_sR, mA_s1, mA_s2, mL_sA, mR_sA, mK_sA, mS_sA, ix_n, ix_a, ix_m, ix_s, z_sw, z_stop, forall_const, true_implies, false_implies, imp_self, implies_true, not_true_eq_false, not_false_eq_true, ne_eq, eq_self, Option.some.injEq, reduceCtorEq, Nat.reduceAdd, Nat.reduceSub, Nat.reduceMul, Nat.reduceEqDiff, Nat.reduceLT, Nat.reduceLeDiff, Int.reduceAdd, Int.reduceMul, Int.reduceSub, Int.reduceNeg, Int.reduceToNat, Int.reduceLT, Int.reduceLE, Int.reduceEq, ↓reduceIte, List.reverse_cons, Option.toList, List.cons_append, List.nil_append, vI_inj, vL_inj, vO_inj, rI, rL, rO, rV, mI_sQ, mL_sQ, mK_sQ, mS_sQ, mQ_s1, mQ_s2, iL_and, iL_or, iL_xor, iL_shl, iL_ushr, iR_and, iR_or, iR_xor, iR_shl, iR_shr, iR_ushr, iR_cmp, yc0, tlX8_narrowed, tkX8_narrowed, o_aload, o_getR, o_goto, o_iald, o_iand, o_ic, o_icge, o_ifeq, o_ifne, o_iinc, o_iload, o_iret, o_ishr, o_istore, o_zald]
    try simp +contextual (disch := omega) only [impF, impT, and_true, true_and, implies_true, not_false_eq_true, not_true_eq_false]
    refine x_callS (by decide +kernel) cv_X8_56 (sm_in l G h w 0 1 hw (by unfold InR; omega) (by unfold InR; omega) 1 (by omega)) (by omega) rfl (by omega) (by omega) rfl (Nat.le_of_ble_eq_true rfl) ?_
    rintro r h' ⟨rfl, hE⟩
    subst h'
    by_cases hww : 0 ≤ w ∧ w ≤ 1
    · rw [if_pos hww]
      rw [fNarrowed, hop, Int.toNat_natCast, show decide (0 ≤ w ∧ w ≤ 1) = true by simp [hww]] at hQ
      simp only [Bool.and_self, if_true] at hQ
      refine z_run1 tsX8_narrowed [] 20 ?_
      simp (maxSteps := 1000000) -implicitDefEqProofs +contextual (disch := omega) only [z_wp_t, z_wp_u, ↓pI_e, ↓pL_e, ↓pO_e, ↓pR_e, ↓p1_I, ↓p1_O, z_gl, z_st1, z_st2, z_nl_I, z_nl_O, z_nl_J, z_nl_L, if_true, if_false, ite_true, ite_false, true_and, and_true, List.mem_cons, List.not_mem_nil, or_false, false_or, or_self, List.length_cons, List.length_nil, InR_t, InL_t, z_ix_t, mI_s1, mI_s2, ↓brT, ↓brF, ↓brT', ↓brF', mL_sI, mR_sI, mK_sI, mS_sI, mI_sL, mL_s1, mL_s2, mR_sL, mK_sL, mS_sL, mI_sR, mL_sR, mR_s1, mR_s2, mK_sR, mS_sR, mA_s1, mA_s2, mL_sA, mR_sA, mK_sA, mS_sA, ix_n, ix_a, ix_m, ix_s, z_sw, z_stop, forall_const, true_implies, false_implies, imp_self, implies_true, not_true_eq_false, not_false_eq_true, ne_eq, eq_self, Option.some.injEq, reduceCtorEq, Nat.reduceAdd, Nat.reduceSub, Nat.reduceMul, Nat.reduceEqDiff, Nat.reduceLT, Nat.reduceLeDiff, Int.reduceAdd, Int.reduceMul, Int.reduceSub, Int.reduceNeg, Int.reduceToNat, Int.reduceLT, Int.reduceLE, Int.reduceEq, ↓reduceIte, List.reverse_cons, Option.toList, List.cons_append, List.nil_append, vI_inj, vL_inj, vO_inj, rI, rL, rO, rV, mI_sQ, mL_sQ, mK_sQ, mS_sQ, mQ_s1, mQ_s2, iL_and, iL_or, iL_xor, iL_shl, iL_ushr, iR_and, iR_or, iR_xor, iR_shl, iR_shr, iR_ushr, iR_cmp, yc0, tlX8_narrowed, tkX8_narrowed, o_aload, o_getR, o_goto, o_iald, o_iand, o_ic, o_icge, o_ifeq, o_ifne, o_iinc, o_iload, o_iret, o_ishr, o_istore, o_zald]
      try simp +contextual (disch := omega) only [impF, impT, and_true, true_and, implies_true, not_false_eq_true, not_true_eq_false]
      refine x_callV (by decide +kernel) cv_X8_183 (sm_prepares l G h (sW s) hS hm hA 3 (by omega)) k0 (by omega) rfl (by omega) (by omega) rfl (Nat.le_of_ble_eq_true rfl) ?_
      rintro r' h1 ⟨rfl, f1, hR1, hP1⟩
      have hW1 : WK h h1 := WK.w f1 hR1 (fun c q => by unfold wkS at q; omega)
      have outer := mn_out l G h QQ s P w hM hA hP hww hQ lv hlv
      have h0 := outer _ 0 h1 (Nat.le_refl _) hW1 hP1
      refine z_run1 tsX8_narrowed [25] 20 ?_
      simp (maxSteps := 1000000) -implicitDefEqProofs +contextual (disch := omega) only [z_wp_t, z_wp_u, ↓pI_e, ↓pL_e, ↓pO_e, ↓pR_e, ↓p1_I, ↓p1_O, z_gl, z_st1, z_st2, z_nl_I, z_nl_O, z_nl_J, z_nl_L, if_true, if_false, ite_true, ite_false, true_and, and_true, List.mem_cons, List.not_mem_nil, or_false, false_or, or_self, List.length_cons, List.length_nil, InR_t, InL_t, z_ix_t, mI_s1, mI_s2, ↓brT, ↓brF, ↓brT', ↓brF', mL_sI, mR_sI, mK_sI, mS_sI, mI_sL, mL_s1, mL_s2, mR_sL, mK_sL, mS_sL, mI_sR, mL_sR, mR_s1, mR_s2, mK_sR, mS_sR, mA_s1, mA_s2, mL_sA, mR_sA, mK_sA, mS_sA, ix_n, ix_a, ix_m, ix_s, z_sw, z_stop, forall_const, true_implies, false_implies, imp_self, implies_true, not_true_eq_false, not_false_eq_true, ne_eq, eq_self, Option.some.injEq, reduceCtorEq, Nat.reduceAdd, Nat.reduceSub, Nat.reduceMul, Nat.reduceEqDiff, Nat.reduceLT, Nat.reduceLeDiff, Int.reduceAdd, Int.reduceMul, Int.reduceSub, Int.reduceNeg, Int.reduceToNat, Int.reduceLT, Int.reduceLE, Int.reduceEq, ↓reduceIte, List.reverse_cons, Option.toList, List.cons_append, List.nil_append, vI_inj, vL_inj, vO_inj, rI, rL, rO, rV, mI_sQ, mL_sQ, mK_sQ, mS_sQ, mQ_s1, mQ_s2, iL_and, iL_or, iL_xor, iL_shl, iL_ushr, iR_and, iR_or, iR_xor, iR_shl, iR_shr, iR_ushr, iR_cmp, yc0, tlX8_narrowed, tkX8_narrowed, o_aload, o_getR, o_goto, o_iald, o_iand, o_ic, o_icge, o_ifeq, o_ifne, o_iinc, o_iload, o_iret, o_ishr, o_istore, o_zald]
      try simp +contextual (disch := omega) only [impF, impT, and_true, true_and, implies_true, not_false_eq_true, not_true_eq_false]
      exact h0
    · rw [if_neg hww]
      rw [fNarrowed, hop, show decide (0 ≤ w ∧ w ≤ 1) = false by simp; omega] at hQ
      refine z_run1 tsX8_narrowed [] 20 ?_
      simp (maxSteps := 1000000) -implicitDefEqProofs +contextual (disch := omega) only [z_wp_t, z_wp_u, ↓pI_e, ↓pL_e, ↓pO_e, ↓pR_e, ↓p1_I, ↓p1_O, z_gl, z_st1, z_st2, z_nl_I, z_nl_O, z_nl_J, z_nl_L, if_true, if_false, ite_true, ite_false, true_and, and_true, List.mem_cons, List.not_mem_nil, or_false, false_or, or_self, List.length_cons, List.length_nil, InR_t, InL_t, z_ix_t, mI_s1, mI_s2, ↓brT, ↓brF, ↓brT', ↓brF', mL_sI, mR_sI, mK_sI, mS_sI, mI_sL, mL_s1, mL_s2, mR_sL, mK_sL, mS_sL, mI_sR, mL_sR, mR_s1, mR_s2, mK_sR, mS_sR, mA_s1, mA_s2, mL_sA, mR_sA, mK_sA, mS_sA, ix_n, ix_a, ix_m, ix_s, z_sw, z_stop, forall_const, true_implies, false_implies, imp_self, implies_true, not_true_eq_false, not_false_eq_true, ne_eq, eq_self, Option.some.injEq, reduceCtorEq, Nat.reduceAdd, Nat.reduceSub, Nat.reduceMul, Nat.reduceEqDiff, Nat.reduceLT, Nat.reduceLeDiff, Int.reduceAdd, Int.reduceMul, Int.reduceSub, Int.reduceNeg, Int.reduceToNat, Int.reduceLT, Int.reduceLE, Int.reduceEq, ↓reduceIte, List.reverse_cons, Option.toList, List.cons_append, List.nil_append, vI_inj, vL_inj, vO_inj, rI, rL, rO, rV, mI_sQ, mL_sQ, mK_sQ, mS_sQ, mQ_s1, mQ_s2, iL_and, iL_or, iL_xor, iL_shl, iL_ushr, iR_and, iR_or, iR_xor, iR_shl, iR_shr, iR_ushr, iR_cmp, yc0, tlX8_narrowed, tkX8_narrowed, o_aload, o_getR, o_goto, o_iald, o_iand, o_ic, o_icge, o_ifeq, o_ifne, o_iinc, o_iload, o_iret, o_ishr, o_istore, o_zald]
      try simp +contextual (disch := omega) only [impF, impT, and_true, true_and, implies_true, not_false_eq_true, not_true_eq_false]
      rw [← hQ]
      exact ⟨rfl, hM, WK.rf⟩
