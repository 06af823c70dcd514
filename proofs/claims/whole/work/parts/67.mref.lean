/-! the reference: refuses, refusal, count -/
theorem rfS_ge {A : zA} : ∀ d, rfS A (aC A + d) = rfS A (aC A)
  | 0 => rfl
  | d + 1 => by
    show rfS A (aC A + d + 1) = _
    simp only [rfS]
    have : rfS A (aC A + d) (aC A + d) = false := by
      cases h : rfS A (aC A + d) (aC A + d)
      · rfl
      · have := act_lt _ (rfS_sub _ _ h); omega
    rw [this, rfS_ge d]
    rfl
theorem rfS_20 {A : zA} (hA : AOK A) : rfS A 20 = rfS A (aC A) := by
  have := rfS_ge (A := A) (20 - aC A)
  rw [show aC A + (20 - aC A) = 20 by have := hA.2.2.2.2.1; omega] at this
  exact this
theorem rfS_lo {A : zA} {n r : Nat} (h : r < n) : rfS A (n + 1) r = rfS A n r := by
  simp only [rfS]
  split
  · simp; intro q; omega
  · rfl
theorem mbr_c {S T : Nat → Bool} : ∀ {n : Nat}, (∀ r, r < n → S r = T r) → mbr S n = mbr T n
  | 0, _ => rfl
  | n + 1, h => by simp only [mbr, h n (by omega), mbr_c (n := n) (fun r hr => h r (by omega))]
theorem mbr_ge {S : Nat → Bool} {n : Nat} (h : ∀ r, n ≤ r → S r = false) : ∀ d, mbr S (n + d) = mbr S n
  | 0 => rfl
  | d + 1 => by
    show mbr S (n + d + 1) = _
    simp only [mbr, h (n + d) (by omega), mbr_ge h d]
    rfl
theorem mbr_20 {A : zA} (hA : AOK A) : mbr (rfS A 20) 20 = mbr (rfS A (aC A)) (aC A) := by
  rw [rfS_20 hA]
  have := mbr_ge (S := rfS A (aC A)) (n := aC A) (fun r hr => by
    cases h : rfS A (aC A) r
    · rfl
    · have := act_lt _ (rfS_sub _ _ h); omega) (20 - aC A)
  rw [show aC A + (20 - aC A) = 20 by have := hA.2.2.2.2.1; omega] at this
  exact this
set_option maxRecDepth 4000 in
set_option maxHeartbeats 4000000 in
theorem sm_refuses (l : Launch) (G : zG) (h : zH) (A : zA) (hS : ShM h) (hm : MA (gI h 94) A) (hA : AOK A) (hP : PrOK h A (actS A) (pubX A)) (lv : Nat) (hlv : 5 ≤ lv) : z_Sp l G mtX8_refuses lv 0 0 [vR 93] (h) (fun x h' => x = some (vI ((mbr (rfS A 20) 20).length : Int)) ∧ WK h h' ∧ ∀ i y : Nat, (mbr (rfS A 20) 20)[i]? = some y → gI h' 107 i = (y : Int)) := by
  have h20 := hA.2.2.2.2.1
  rw [mbr_20 hA]
  refine x_enter [vR 93, vJ, vJ] (by decide +kernel) (by omega) rfl (Nat.le_of_ble_eq_true rfl) ?_
  generalize hQ : (fun (x : Option zV) (h' : zH) => x = some (vI ((mbr (rfS A (aC A)) (aC A)).length : Int)) ∧ WK h h' ∧ ∀ i y : Nat, (mbr (rfS A (aC A)) (aC A))[i]? = some y → gI h' 107 i = (y : Int)) = QQ
  have hlo : ∀ (d r : Nat) (h1 : zH), r + d = aC A → WK h h1 → PrOK h1 A (rfS A r) (pubX A) → (∀ i y : Nat, (mbr (rfS A r) r)[i]? = some y → gI h1 107 i = (y : Int)) → z_X l G mtX8_refuses lv 0 0 (QQ) 0 0 (h1) 4 [vR 93, vI ((mbr (rfS A r) r).length : Int), vI r] [] := by
    intro d
    induction d with
    | zero =>
      intro r h1 hr hW1 hP1 hM1
      obtain rfl : r = aC A := by omega
      have hS1 := hS.of hW1.1.K hW1.2.1
      have c0 := hS1.1
      have c94 := hS1.2.1.1
      have s0 := hS1.2.2.2.1.1
      have e49 : gI h1 94 49 = (aC A : Int) := by rw [hW1.1.I (by omega)]; exact hm.2.2.2.2.1
      refine z_run1 tsX8_refuses [] 20 ?_
      simp (maxSteps := 1000000) -implicitDefEqProofs +contextual (disch := omega) only [z_wp_t, z_wp_u, ↓pI_e, ↓pL_e, ↓pO_e, ↓pR_e, ↓p1_I, ↓p1_O, z_gl, z_st1, z_st2, z_nl_I, z_nl_O, z_nl_J, z_nl_L, if_true, if_false, ite_true, ite_false, true_and, and_true, List.mem_cons, List.not_mem_nil, or_false, false_or, or_self, List.length_cons, List.length_nil, InR_t, InL_t, z_ix_t, mI_s1, mI_s2, ↓brT, ↓brF, ↓brT', ↓brF', mL_sI, mR_sI, mK_sI, mS_sI, mI_sL, mL_s1, mL_s2, mR_sL, mK_sL, mS_sL, mI_sR, mL_sR, mR_s1, mR_s2, mK_sR, mS_sR, mA_s1, mA_s2, mL_sA, mR_sA, mK_sA, mS_sA, ix_n, ix_a, ix_m, ix_s, z_sw, z_stop, forall_const, true_implies, false_implies, imp_self, implies_true, not_true_eq_false, not_false_eq_true, ne_eq, eq_self, Option.some.injEq, reduceCtorEq, Nat.reduceAdd, Nat.reduceSub, Nat.reduceMul, Nat.reduceEqDiff, Nat.reduceLT, Nat.reduceLeDiff, Int.reduceAdd, Int.reduceMul, Int.reduceSub, Int.reduceNeg, Int.reduceToNat, Int.reduceLT, Int.reduceLE, Int.reduceEq, ↓reduceIte, List.reverse_cons, Option.toList, List.cons_append, List.nil_append, vI_inj, vL_inj, vO_inj, rI, rL, rO, rV, mI_sQ, mL_sQ, mK_sQ, mS_sQ, mQ_s1, mQ_s2, iL_and, iL_or, iL_xor, iL_shl, iL_ushr, iR_and, iR_or, iR_xor, iR_shl, iR_shr, iR_ushr, iR_cmp, yc0, tlX8_refuses, tkX8_refuses, o_aload, o_getR, o_goto, o_iadd, o_iald, o_iast, o_ic, o_icge, o_ifeq, o_ifle, o_iinc, o_iload, o_iret, o_istore, o_zald, o_zast, c0, c94, s0, e49]
      try simp +contextual (disch := omega) only [impF, impT, and_true, true_and, implies_true, not_false_eq_true, not_true_eq_false]
      rw [← hQ]
      exact ⟨rfl, hW1, hM1⟩
    | succ d ih =>
      intro r h1 hr hW1 hP1 hM1
      have hrc : r < aC A := by omega
      have hS1 := hS.of hW1.1.K hW1.2.1
      have hm1 : MA (gI h1 94) A := by rw [hW1.1.I (by omega)]; exact hm
      have c0 := hS1.1
      have c94 := hS1.2.1.1
      have c101 := hS1.2.1.2.2.2.2.2.2.2
      have c107 := hS1.2.2.1.2.2.2.2.2.1
      have s0 := hS1.2.2.2.1.1
      have s11 := hS1.2.2.2.1.2.2.2.2.2.2.2
      have s19 := hS1.2.2.2.2.2.2.2.2.2.1
      have e49 := hm1.2.2.2.2.1
      have p1 := (hP1.1 r hrc).1
      have hlen := mbr_len (rfS A r) r
      have hcl := cnt_le (rfS A r) r
      have hmb : mbr (rfS A (r + 1)) r = mbr (rfS A r) r := mbr_c fun x hx => rfS_lo hx
      unfold b01 at p1
      cases hs : rfS A r r
      · rw [hs] at p1
        simp only [Bool.false_eq_true, if_false] at p1
        have e : rfS A (r + 1) = rfS A r := by simp only [rfS, hs]; rfl
        have e2 : mbr (rfS A (r + 1)) (r + 1) = mbr (rfS A r) r := by simp only [mbr, e, hs]; rfl
        have hnx := ih (r + 1) h1 (by omega) hW1 (by rw [e]; exact hP1) (by rw [e2]; exact hM1)
        rw [e2] at hnx
        refine z_run1 tsX8_refuses [4] 30 ?_
        simp (maxSteps := 1000000) -implicitDefEqProofs +contextual (disch := omega) only [z_wp_t, z_wp_u, ↓pI_e, ↓pL_e, ↓pO_e, ↓pR_e, ↓p1_I, ↓p1_O, z_gl, z_st1, z_st2, z_nl_I, z_nl_O, z_nl_J, z_nl_L, if_true, if_false, ite_true, ite_false, true_and, and_true, List.mem_cons, List.not_mem_nil, or_false, false_or, or_self, List.length_cons, List.length_nil, InR_t, InL_t, z_ix_t, mI_s1, mI_s2, ↓brT, ↓brF, ↓brT', ↓brF', mL_sI, mR_sI, mK_sI, mS_sI, mI_sL, mL_s1, mL_s2, mR_sL, mK_sL, mS_sL, mI_sR, mL_sR, mR_s1, mR_s2, mK_sR, mS_sR, mA_s1, mA_s2, mL_sA, mR_sA, mK_sA, mS_sA, ix_n, ix_a, ix_m, ix_s, z_sw, z_stop, forall_const, true_implies, false_implies, imp_self, implies_true, not_true_eq_false, not_false_eq_true, ne_eq, eq_self, Option.some.injEq, reduceCtorEq, Nat.reduceAdd, Nat.reduceSub, Nat.reduceMul, Nat.reduceEqDiff, Nat.reduceLT, Nat.reduceLeDiff, Int.reduceAdd, Int.reduceMul, Int.reduceSub, Int.reduceNeg, Int.reduceToNat, Int.reduceLT, Int.reduceLE, Int.reduceEq, ↓reduceIte, List.reverse_cons, Option.toList, List.cons_append, List.nil_append, vI_inj, vL_inj, vO_inj, rI, rL, rO, rV, mI_sQ, mL_sQ, mK_sQ, mS_sQ, mQ_s1, mQ_s2, iL_and, iL_or, iL_xor, iL_shl, iL_ushr, iR_and, iR_or, iR_xor, iR_shl, iR_shr, iR_ushr, iR_cmp, yc0, tlX8_refuses, tkX8_refuses, o_aload, o_getR, o_goto, o_iadd, o_iald, o_iast, o_ic, o_icge, o_ifeq, o_ifle, o_iinc, o_iload, o_iret, o_istore, o_zald, o_zast, c0, c94, c101, s0, s11, e49, p1]
        try simp +contextual (disch := omega) only [impF, impT, and_true, true_and, implies_true, not_false_eq_true, not_true_eq_false]
        exact hnx
      · rw [hs] at p1
        simp only [if_true] at p1
        obtain ⟨S', hS'⟩ : ∃ S' : Nat → Bool, S' = fun x => rfS A r x && decide (x ≠ r) := ⟨_, rfl⟩
        have hrf : rfS A (r + 1) = if !slv A S' then S' else rfS A r := by simp only [rfS, hs, Bool.true_and, ← hS']
        have f2 : Fr (fun c => c = 101) h1 (sI h1 101 r 0) := Fr_I1 _ _ _ _
        have hW2 := hW1.tr (WK.w f2 (show gR (sI h1 101 r 0) = gR h1 from rfl) (fun c q => by omega))
        have hP2 : PrOK (sI h1 101 r 0) A S' (pubX A) := by
          refine ⟨fun x hx => ?_, fun q hq => by rw [f2.I (by omega)]; exact hP1.2 q hq⟩
          obtain ⟨g1, g2, g3⟩ := hP1.1 x hx
          refine ⟨?_, by rw [f2.I (by omega)]; exact g2, by rw [f2.I (by omega)]; exact g3⟩
          by_cases e : x = r
          · rw [e, mI_s1, hS']; simp [b01]
          · rw [mI_s2 _ _ (Or.inr e), g1, hS']; simp [e]
        have hS2 := hS.of hW2.1.K hW2.2.1
        have hm2 : MA (gI (sI h1 101 r 0) 94) A := by rw [f2.I (by omega)]; exact hm1
        have hfi := sm_finds l G (sI h1 101 r 0) 1 0 A S' (pubX A) hS2 hm2 hA hP2 pub_le (Or.inl rfl) (by omega) (fun q => by omega) 4 (by omega)
        rw [show ((1 : Nat) : Int) = 1 from rfl] at hfi
        have k2 := hS2.1
        have c101' := hS2.2.1.2.2.2.2.2.2.2
        have s11' := hS2.2.2.2.1.2.2.2.2.2.2.2
        generalize hLL : mbr (rfS A r) r = LL at *
        refine z_run1 tsX8_refuses [] 30 ?_
        simp (maxSteps := 1000000) -implicitDefEqProofs +contextual (disch := omega) only [z_wp_t, z_wp_u, ↓pI_e, ↓pL_e, ↓pO_e, ↓pR_e, ↓p1_I, ↓p1_O, z_gl, z_st1, z_st2, z_nl_I, z_nl_O, z_nl_J, z_nl_L, if_true, if_false, ite_true, ite_false, true_and, and_true, List.mem_cons, List.not_mem_nil, or_false, false_or, or_self, List.length_cons, List.length_nil, InR_t, InL_t, z_ix_t, mI_s1, mI_s2, ↓brT, ↓brF, ↓brT', ↓brF', mL_sI, mR_sI, mK_sI, mS_sI, mI_sL, mL_s1, mL_s2, mR_sL, mK_sL, mS_sL, mI_sR, mL_sR, mR_s1, mR_s2, mK_sR, mS_sR, mA_s1, mA_s2, mL_sA, mR_sA, mK_sA, mS_sA, ix_n, ix_a, ix_m, ix_s, z_sw, z_stop, forall_const, true_implies, false_implies, imp_self, implies_true, not_true_eq_false, not_false_eq_true, ne_eq, eq_self, Option.some.injEq, reduceCtorEq, Nat.reduceAdd, Nat.reduceSub, Nat.reduceMul, Nat.reduceEqDiff, Nat.reduceLT, Nat.reduceLeDiff, Int.reduceAdd, Int.reduceMul, Int.reduceSub, Int.reduceNeg, Int.reduceToNat, Int.reduceLT, Int.reduceLE, Int.reduceEq, ↓reduceIte, List.reverse_cons, Option.toList, List.cons_append, List.nil_append, vI_inj, vL_inj, vO_inj, rI, rL, rO, rV, mI_sQ, mL_sQ, mK_sQ, mS_sQ, mQ_s1, mQ_s2, iL_and, iL_or, iL_xor, iL_shl, iL_ushr, iR_and, iR_or, iR_xor, iR_shl, iR_shr, iR_ushr, iR_cmp, yc0, tlX8_refuses, tkX8_refuses, o_aload, o_getR, o_goto, o_iadd, o_iald, o_iast, o_ic, o_icge, o_ifeq, o_ifle, o_iinc, o_iload, o_iret, o_istore, o_zald, o_zast, c0, c94, c101, s0, s11, e49, p1]
        try simp +contextual (disch := omega) only [impF, impT, and_true, true_and, implies_true, not_false_eq_true, not_true_eq_false]
        generalize sI h1 101 r 0 = h2 at *
        refine x_callV (by decide +kernel) cv_X8_187 (hfi) k2 (by omega) rfl (by omega) (by omega) rfl (Nat.le_of_ble_eq_true rfl) ?_
        rintro r' h3 ⟨n3, rfl, f3, hn3, -⟩
        have hn3 := hn3 rfl
        rw [PL_fil hA] at hn3
        have hW3 := hW2.tr (WK.fh f3)
        have hS3 := hS.of hW3.1.K hW3.2.1
        have d0 := hS3.1
        have d101 := hS3.2.1.2.2.2.2.2.2.2
        have d107 := hS3.2.2.1.2.2.2.2.2.1
        have t11 := hS3.2.2.2.1.2.2.2.2.2.2.2
        have t19 := hS3.2.2.2.2.2.2.2.2.2.1
        have fin : ∀ (bb : Bool), slv A S' = bb → z_X l G mtX8_refuses lv 0 0 (QQ) 0 0 (sI (sI h3 101 r (b01 bb)) 107 LL.length (r : Int)) 4 [vR 93, vI ((LL.length : Int) + b01 bb), vI ((r + 1 : Nat) : Int)] [] := by
          intro bb hbb
          have f4 : Fr (fun c => c = 101 ∨ c = 107) h3 (sI (sI h3 101 r (b01 bb)) 107 LL.length (r : Int)) := (Fr.sI (fun c => c = 101 ∨ c = 107) _ _ _ _ (Or.inl rfl)).tr' (Fr.sI (fun c => c = 101 ∨ c = 107) _ _ _ _ (Or.inr rfl)) (fun _ q => q) (fun _ q => q)
          have hrr : rfS A (r + 1) r = bb := by
            rw [hrf, hbb]
            cases bb
            · simp [hS']
            · simp [hs]
          have hml : mbr (rfS A (r + 1)) (r + 1) = if bb then LL ++ [r] else LL := by simp only [mbr, hmb, hrr]
          have hnx := ih (r + 1) (sI (sI h3 101 r (b01 bb)) 107 LL.length (r : Int)) (by omega) (hW3.tr (WK.w f4 rfl (fun c q => by omega))) (by
            refine ⟨fun x hx => ?_, fun q hq => by rw [f4.I (by omega), f3.1.I (by omega)]; exact hP2.2 q hq⟩
            obtain ⟨g1, g2, g3⟩ := hP2.1 x hx
            refine ⟨?_, by rw [f4.I (by omega), f3.1.I (by omega)]; exact g2, by rw [f4.I (by omega), f3.1.I (by omega)]; exact g3⟩
            rw [mI_s2 _ _ (Or.inl (by omega))]
            by_cases e : x = r
            · rw [e, mI_s1, hrr]
            · rw [mI_s2 _ _ (Or.inr e), f3.1.I (by omega), g1, hrf, hbb]
              cases bb
              · rfl
              · simp [hS', e]) (fun i y hy => by
            have hold : ∀ y : Nat, i < LL.length → LL[i]? = some y → gI (sI (sI h3 101 r (b01 bb)) 107 LL.length (r : Int)) 107 i = (y : Int) := fun y hi hy => by
              rw [mI_s2 _ _ (Or.inr (by omega)), mI_s2 _ _ (Or.inl (by omega)), f3.1.I (by omega), f2.I (by omega)]
              exact hM1 i y hy
            rw [hml] at hy
            cases bb
            · exact hold y (List.getElem?_eq_some_iff.mp hy).1 hy
            · simp only [if_true] at hy
              by_cases hi : i < LL.length
              · rw [List.getElem?_append_left hi] at hy
                exact hold y hi hy
              · have hlt := (List.getElem?_eq_some_iff.mp hy).1
                rw [List.length_append] at hlt
                simp at hlt
                obtain rfl : i = LL.length := by omega
                rw [List.getElem?_append_right (Nat.le_refl _), Nat.sub_self] at hy
                simp at hy
                rw [mI_s1, hy])
          rw [hml] at hnx
          cases bb
          · simpa [b01] using hnx
          · simpa [b01] using hnx
        cases hsl : slv A S'
        · have hn0 : n3 = 0 := by
            have : solL A S' = [] := by unfold slv at hsl; simpa using hsl
            rw [hn3, this]; rfl
          subst hn0
          have hf := fin false hsl
          rw [show b01 false = 0 from rfl] at hf
          refine z_run1 tsX8_refuses [4] 40 ?_
          simp (maxSteps := 1000000) -implicitDefEqProofs +contextual (disch := omega) only [z_wp_t, z_wp_u, ↓pI_e, ↓pL_e, ↓pO_e, ↓pR_e, ↓p1_I, ↓p1_O, z_gl, z_st1, z_st2, z_nl_I, z_nl_O, z_nl_J, z_nl_L, if_true, if_false, ite_true, ite_false, true_and, and_true, List.mem_cons, List.not_mem_nil, or_false, false_or, or_self, List.length_cons, List.length_nil, InR_t, InL_t, z_ix_t, mI_s1, mI_s2, ↓brT, ↓brF, ↓brT', ↓brF', mL_sI, mR_sI, mK_sI, mS_sI, mI_sL, mL_s1, mL_s2, mR_sL, mK_sL, mS_sL, mI_sR, mL_sR, mR_s1, mR_s2, mK_sR, mS_sR, mA_s1, mA_s2, mL_sA, mR_sA, mK_sA, mS_sA, ix_n, ix_a, ix_m, ix_s, z_sw, z_stop, forall_const, true_implies, false_implies, imp_self, implies_true, not_true_eq_false, not_false_eq_true, ne_eq, eq_self, Option.some.injEq, reduceCtorEq, Nat.reduceAdd, Nat.reduceSub, Nat.reduceMul, Nat.reduceEqDiff, Nat.reduceLT, Nat.reduceLeDiff, Int.reduceAdd, Int.reduceMul, Int.reduceSub, Int.reduceNeg, Int.reduceToNat, Int.reduceLT, Int.reduceLE, Int.reduceEq, ↓reduceIte, List.reverse_cons, Option.toList, List.cons_append, List.nil_append, vI_inj, vL_inj, vO_inj, rI, rL, rO, rV, mI_sQ, mL_sQ, mK_sQ, mS_sQ, mQ_s1, mQ_s2, iL_and, iL_or, iL_xor, iL_shl, iL_ushr, iR_and, iR_or, iR_xor, iR_shl, iR_shr, iR_ushr, iR_cmp, yc0, tlX8_refuses, tkX8_refuses, o_aload, o_getR, o_goto, o_iadd, o_iald, o_iast, o_ic, o_icge, o_ifeq, o_ifle, o_iinc, o_iload, o_iret, o_istore, o_zald, o_zast, d0, d101, d107, t11, t19]
          try simp +contextual (disch := omega) only [impF, impT, and_true, true_and, implies_true, not_false_eq_true, not_true_eq_false]
          exact hf
        · have hn1 : n3 = 1 := by
            unfold slv at hsl
            cases hl : solL A S' with
            | nil => rw [hl] at hsl; cases hsl
            | cons a b => rw [hn3, hl]; simp
          subst hn1
          have hf := fin true hsl
          rw [show b01 true = 1 from rfl] at hf
          refine z_run1 tsX8_refuses [4] 40 ?_
          simp (maxSteps := 1000000) -implicitDefEqProofs +contextual (disch := omega) only [z_wp_t, z_wp_u, ↓pI_e, ↓pL_e, ↓pO_e, ↓pR_e, ↓p1_I, ↓p1_O, z_gl, z_st1, z_st2, z_nl_I, z_nl_O, z_nl_J, z_nl_L, if_true, if_false, ite_true, ite_false, true_and, and_true, List.mem_cons, List.not_mem_nil, or_false, false_or, or_self, List.length_cons, List.length_nil, InR_t, InL_t, z_ix_t, mI_s1, mI_s2, ↓brT, ↓brF, ↓brT', ↓brF', mL_sI, mR_sI, mK_sI, mS_sI, mI_sL, mL_s1, mL_s2, mR_sL, mK_sL, mS_sL, mI_sR, mL_sR, mR_s1, mR_s2, mK_sR, mS_sR, mA_s1, mA_s2, mL_sA, mR_sA, mK_sA, mS_sA, ix_n, ix_a, ix_m, ix_s, z_sw, z_stop, forall_const, true_implies, false_implies, imp_self, implies_true, not_true_eq_false, not_false_eq_true, ne_eq, eq_self, Option.some.injEq, reduceCtorEq, Nat.reduceAdd, Nat.reduceSub, Nat.reduceMul, Nat.reduceEqDiff, Nat.reduceLT, Nat.reduceLeDiff, Int.reduceAdd, Int.reduceMul, Int.reduceSub, Int.reduceNeg, Int.reduceToNat, Int.reduceLT, Int.reduceLE, Int.reduceEq, ↓reduceIte, List.reverse_cons, Option.toList, List.cons_append, List.nil_append, vI_inj, vL_inj, vO_inj, rI, rL, rO, rV, mI_sQ, mL_sQ, mK_sQ, mS_sQ, mQ_s1, mQ_s2, iL_and, iL_or, iL_xor, iL_shl, iL_ushr, iR_and, iR_or, iR_xor, iR_shl, iR_shr, iR_ushr, iR_cmp, yc0, tlX8_refuses, tkX8_refuses, o_aload, o_getR, o_goto, o_iadd, o_iald, o_iast, o_ic, o_icge, o_ifeq, o_ifle, o_iinc, o_iload, o_iret, o_istore, o_zald, o_zast, d0, d101, d107, t11, t19]
          try simp +contextual (disch := omega) only [impF, impT, and_true, true_and, implies_true, not_false_eq_true, not_true_eq_false]
          exact hf
  have h0 := hlo (aC A) 0 h (by omega) WK.rf hP (fun i y hy => by simp [mbr] at hy)
  refine z_run1 tsX8_refuses [4] 20 ?_
  simp (maxSteps := 1000000) -implicitDefEqProofs +contextual (disch := omega) only [z_wp_t, z_wp_u, ↓pI_e, ↓pL_e, ↓pO_e, ↓pR_e, ↓p1_I, ↓p1_O, z_gl, z_st1, z_st2, z_nl_I, z_nl_O, z_nl_J, z_nl_L, if_true, if_false, ite_true, ite_false, true_and, and_true, List.mem_cons, List.not_mem_nil, or_false, false_or, or_self, List.length_cons, List.length_nil, InR_t, InL_t, z_ix_t, mI_s1, mI_s2, ↓brT, ↓brF, ↓brT', ↓brF', mL_sI, mR_sI, mK_sI, mS_sI, mI_sL, mL_s1, mL_s2, mR_sL, mK_sL, mS_sL, mI_sR, mL_sR, mR_s1, mR_s2, mK_sR, mS_sR, mA_s1, mA_s2, mL_sA, mR_sA, mK_sA, mS_sA, ix_n, ix_a, ix_m, ix_s, z_sw, z_stop, forall_const, true_implies, false_implies, imp_self, implies_true, not_true_eq_false, not_false_eq_true, ne_eq, eq_self, Option.some.injEq, reduceCtorEq, Nat.reduceAdd, Nat.reduceSub, Nat.reduceMul, Nat.reduceEqDiff, Nat.reduceLT, Nat.reduceLeDiff, Int.reduceAdd, Int.reduceMul, Int.reduceSub, Int.reduceNeg, Int.reduceToNat, Int.reduceLT, Int.reduceLE, Int.reduceEq, ↓reduceIte, List.reverse_cons, Option.toList, List.cons_append, List.nil_append, vI_inj, vL_inj, vO_inj, rI, rL, rO, rV, mI_sQ, mL_sQ, mK_sQ, mS_sQ, mQ_s1, mQ_s2, iL_and, iL_or, iL_xor, iL_shl, iL_ushr, iR_and, iR_or, iR_xor, iR_shl, iR_shr, iR_ushr, iR_cmp, yc0, tlX8_refuses, tkX8_refuses, o_aload, o_getR, o_goto, o_iadd, o_iald, o_iast, o_ic, o_icge, o_ifeq, o_ifle, o_iinc, o_iload, o_iret, o_istore, o_zald, o_zast]
  try simp +contextual (disch := omega) only [impF, impT, and_true, true_and, implies_true, not_false_eq_true, not_true_eq_false]
  exact h0
