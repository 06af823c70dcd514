/-! RuleText.parseRange -/
def pRg (t : Nat → Int) (n : Nat) : Nat → Nat → List (Int × Int) → Bool × Nat × List (Int × Int)
  | 0, i, acc => (false, i, acc)
  | m + 1, i, acc => if (pPart t n i).1 = true then (if ck t n (pPart t n i).2.1 = 124 then pRg t n m (sk t n ((pPart t n i).2.1 + 1)) (acc ++ [(pPart t n i).2.2]) else (true, (pPart t n i).2.1, acc ++ [(pPart t n i).2.2])) else (false, (pPart t n i).2.1, acc)
theorem pRg_s (t : Nat → Int) (n m i : Nat) (acc : List (Int × Int)) : pRg t n (m + 1) i acc = if (pPart t n i).1 = true then (if ck t n (pPart t n i).2.1 = 124 then pRg t n m (sk t n ((pPart t n i).2.1 + 1)) (acc ++ [(pPart t n i).2.2]) else (true, (pPart t n i).2.1, acc ++ [(pPart t n i).2.2])) else (false, (pPart t n i).2.1, acc) := rfl
def RgL (h : zH) (q : Nat) (l : List (Int × Int)) : Prop := RgP h q 20 l.length ∧ ∀ k x, l[k]? = some x → gI h (q + 1) k = x.1 ∧ gI h (q + 2) k = x.2
theorem RgP.fr {S : Nat → Prop} {h h' : zH} (f : Fr S h h') {q N n : Nat} (hs : ¬ S q ∧ ¬ S (q + 1) ∧ ¬ S (q + 2)) (hr : RgP h q N n) : RgP h' q N n := by
  unfold RgP RgS at *
  rw [f.K, f.I hs.1, f.I hs.2.1, f.I hs.2.2, f.R hs.1]
  exact hr
theorem RgL.fr {S : Nat → Prop} {h h' : zH} (f : Fr S h h') {q : Nat} {l : List (Int × Int)} (hs : ¬ S q ∧ ¬ S (q + 1) ∧ ¬ S (q + 2)) (hr : RgL h q l) : RgL h' q l := by
  refine ⟨hr.1.fr f hs, ?_⟩
  rw [f.I hs.2.1, f.I hs.2.2]
  exact hr.2
theorem RgS.fr {S : Nat → Prop} {h h' : zH} (f : Fr S h h') {q N : Nat} (hs : ¬ S q) (hr : RgS h q N) : RgS h' q N := by
  unfold RgS at *
  rw [f.K, f.R hs]
  exact hr
theorem Tx.fr {S : Nat → Prop} {h h' : zH} {f t : Nat → Int} {n : Nat} (g : Fr S h h') (hs : ¬ S 85 ∧ ¬ S 86) (hT : Tx h f t n) : Tx h' f t n := by
  unfold Tx at *
  rw [g.K, g.R hs.1, g.I hs.2]
  exact hT
theorem sI_sA_c (h : zH) {a b : Nat} (hab : a ≠ b) (k : Nat) (z : Int) (f : Nat → Int) : sI (sA h b f) a k z = sA (sI h a k z) b f := by
  refine zH_ext rfl ?_ rfl rfl
  funext c j
  simp only [mI_sI, mI_sA]
  by_cases h1 : c = b
  · subst h1
    have : ¬ c = a := fun q => hab q.symm
    simp [this]
  · simp [h1]
theorem RgL.add {h : zH} {q : Nat} {l : List (Int × Int)} {a b : Int} (hr : RgL h q l) (hl : l.length < 20) (ha : InV a) (hb : InV b) : RgL (sI (sI (sI h (q + 1) l.length a) (q + 2) l.length b) q 2 (l.length + 1)) q (l ++ [(a, b)]) := by
  obtain ⟨⟨⟨k0, k1, k2, r0, r1, hN⟩, hn, hnN, hv⟩, hc⟩ := hr
  have e1 : ∀ k, gI (sI (sI (sI h (q + 1) l.length a) (q + 2) l.length b) q 2 (l.length + 1)) (q + 1) k = if k = l.length then a else gI h (q + 1) k := by
    intro k
    rw [mI_s2 _ _ (Or.inl (by omega)), mI_s2 _ _ (Or.inl (by omega)), mI_sI]
    by_cases hk : k = l.length <;> simp [hk]
  have e2 : ∀ k, gI (sI (sI (sI h (q + 1) l.length a) (q + 2) l.length b) q 2 (l.length + 1)) (q + 2) k = if k = l.length then b else gI h (q + 2) k := by
    intro k
    rw [mI_s2 _ _ (Or.inl (by omega)), mI_sI]
    by_cases hk : k = l.length
    · simp [hk]
    · rw [if_neg (by omega), if_neg hk, mI_s2 _ _ (Or.inl (by omega))]
  refine ⟨⟨⟨k0, k1, k2, r0, r1, hN⟩, by rw [mI_s1]; simp, by simp; omega, fun i hi => ?_⟩, fun k x hx => ?_⟩
  · rw [e1, e2]
    by_cases hi2 : i = l.length
    · rw [if_pos hi2, if_pos hi2]; exact ⟨ha, hb⟩
    · rw [if_neg hi2, if_neg hi2]; exact hv i (by simp at hi; omega)
  · rw [e1, e2]
    by_cases hk : k < l.length
    · rw [List.getElem?_append_left hk] at hx
      rw [if_neg (by omega), if_neg (by omega)]
      exact hc k x hx
    · rw [List.getElem?_append_right (by omega)] at hx
      have hz : k - l.length < 1 := (List.getElem?_eq_some_iff.mp hx).1
      rw [show k - l.length = 0 by omega] at hx
      cases hx
      rw [if_pos (by omega), if_pos (by omega)]
      exact ⟨rfl, rfl⟩
/-- what parseRange leaves -/
def rgQ (h : zH) (f : Nat → Int) (q : Nat) (x : Bool × Nat × List (Int × Int)) : Option zV → zH → Prop := fun r h' => r = none ∧ ∃ h2 g, h' = sA h2 85 g ∧ Fr (fun c => q ≤ c ∧ c ≤ q + 2) h h2 ∧ f6 f g ∧ g 2 = (x.2.1 : Int) ∧ g 3 = (if x.1 then 0 else 1) ∧ (x.1 = true → RgL h2 q x.2.2) ∧ RgS h2 q 20
set_option maxHeartbeats 4000000 in
theorem sp_parseRange (l : Launch) (G : zG) (h : zH) (f t : Nat → Int) (n i q : Nat) (hT : Tx h f t n) (hi : f 2 = (i : Int)) (hi40 : i ≤ n) (hf3 : f 3 = 0) (hq : q = 87 ∨ q = 90) (hS : RgS h q 20) (lv : Nat) (hlv : 5 ≤ lv) : z_Sp l G mtX5_parseRange lv 0 0 [vR 85, vR q] (sA h 85 f) (rgQ h f q (pRg t n 20 i [])) := by
  have hT0 := hT
  have k0 := hT.1
  have hn := hT.2.2.2.2.2.1
  have hlo : ∀ (d m : Nat) (h2 : zH) (g : Nat → Int) (j : Nat) (acc : List (Int × Int)), m + d = 20 → Fr (fun c => q ≤ c ∧ c ≤ q + 2) h h2 → f6 f g → g 2 = (j : Int) → g 3 = 0 → j ≤ n → acc.length = m → RgL h2 q acc → pRg t n 20 i [] = pRg t n d j acc → z_X l G mtX5_parseRange lv 0 0 (rgQ h f q (pRg t n 20 i [])) 0 0 (sA h2 85 g) 8 [vR 85, vR q, vI 1, vI m] [] := by
    intro d
    induction d with
    | zero =>
      intro m h2 g j acc hm hfr hg e2 e3 hj hl hR he
      have k0' : (gK h2 85).1 = 5 := by rw [hfr.K]; exact k0
      generalize hQ : rgQ h f q (pRg t n 20 i []) = QQ
      refine z_run1 tsX5_parseRange [8] 30 ?_
      simp (maxSteps := 1000000) -implicitDefEqProofs +contextual (disch := omega) only [z_wp_t, z_wp_u, ↓pI_e, ↓pL_e, ↓pO_e, ↓pR_e, ↓p1_I, ↓p1_O, z_gl, z_st1, z_st2, z_nl_I, z_nl_O, z_nl_J, z_nl_L, if_true, if_false, ite_true, ite_false, true_and, and_true, List.mem_cons, List.not_mem_nil, or_false, false_or, or_self, List.length_cons, List.length_nil, InR_t, InL_t, z_ix_t, mI_s1, mI_s2, ↓brT, ↓brF, ↓brT', ↓brF', mL_sI, mR_sI, mK_sI, mS_sI, mI_sL, mL_s1, mL_s2, mR_sL, mK_sL, mS_sL, mI_sR, mL_sR, mR_s1, mR_s2, mK_sR, mS_sR, mA_s1, mA_s2, mL_sA, mR_sA, mK_sA, mS_sA, ix_n, ix_a, ix_m, ix_s, z_sw, z_stop, forall_const, true_implies, false_implies, imp_self, implies_true, not_true_eq_false, not_false_eq_true, ne_eq, eq_self, Option.some.injEq, reduceCtorEq, Nat.reduceAdd, Nat.reduceSub, Nat.reduceMul, Nat.reduceEqDiff, Nat.reduceLT, Nat.reduceLeDiff, Int.reduceAdd, Int.reduceMul, Int.reduceSub, Int.reduceNeg, Int.reduceToNat, Int.reduceLT, Int.reduceLE, Int.reduceEq, ↓reduceIte, List.reverse_cons, Option.toList, List.cons_append, List.nil_append, vI_inj, vL_inj, vO_inj, rI, rL, rO, rV, mI_sQ, mL_sQ, mK_sQ, mS_sQ, mQ_s1, mQ_s2, tlX5_parseRange, tkX5_parseRange, o_aload, o_getI, o_goto, o_ic, o_icge, o_ifeq, o_ifne, o_iinc, o_iload, o_istore, o_putZ, o_vret, k0', sI_sA]
      try simp +contextual (disch := omega) only [impF, impT, and_true, true_and, implies_true, not_false_eq_true, not_true_eq_false]
      rw [← hQ, he]
      exact ⟨rfl, h2, _, rfl, hfr, fun k a b c d e f => by rw [up_n _ _ b]; exact hg k a b c d e f, by rw [up_n _ _ (by decide)]; exact e2, by rw [up_s]; rfl, (fun q => by cases q), hR.1.1⟩
    | succ d ih =>
      intro m h2 g j acc hm hfr hg e2 e3 hj hl hR he
      have k0' : (gK h2 85).1 = 5 := by rw [hfr.K]; exact k0
      have hTg : Tx h2 g t n := (hT0.up (g := g) (hg 1 (by decide) (by decide) (by decide) (by decide) (by decide) (by decide))).fr hfr ⟨by omega, by omega⟩
      have hpo := pPart_ok (t := t) (n := n) (i := j) hj
      rw [pRg_s t n d j acc] at he
      generalize hQ : rgQ h f q (pRg t n 20 i []) = QQ at ih ⊢
      have hkq : (gK h2 q).1 = 3 := hR.1.1.1
      refine z_run1 tsX5_parseRange [8] 30 ?_
      simp (maxSteps := 1000000) -implicitDefEqProofs +contextual (disch := omega) only [z_wp_t, z_wp_u, ↓pI_e, ↓pL_e, ↓pO_e, ↓pR_e, ↓p1_I, ↓p1_O, z_gl, z_st1, z_st2, z_nl_I, z_nl_O, z_nl_J, z_nl_L, if_true, if_false, ite_true, ite_false, true_and, and_true, List.mem_cons, List.not_mem_nil, or_false, false_or, or_self, List.length_cons, List.length_nil, InR_t, InL_t, z_ix_t, mI_s1, mI_s2, ↓brT, ↓brF, ↓brT', ↓brF', mL_sI, mR_sI, mK_sI, mS_sI, mI_sL, mL_s1, mL_s2, mR_sL, mK_sL, mS_sL, mI_sR, mL_sR, mR_s1, mR_s2, mK_sR, mS_sR, mA_s1, mA_s2, mL_sA, mR_sA, mK_sA, mS_sA, ix_n, ix_a, ix_m, ix_s, z_sw, z_stop, forall_const, true_implies, false_implies, imp_self, implies_true, not_true_eq_false, not_false_eq_true, ne_eq, eq_self, Option.some.injEq, reduceCtorEq, Nat.reduceAdd, Nat.reduceSub, Nat.reduceMul, Nat.reduceEqDiff, Nat.reduceLT, Nat.reduceLeDiff, Int.reduceAdd, Int.reduceMul, Int.reduceSub, Int.reduceNeg, Int.reduceToNat, Int.reduceLT, Int.reduceLE, Int.reduceEq, ↓reduceIte, List.reverse_cons, Option.toList, List.cons_append, List.nil_append, vI_inj, vL_inj, vO_inj, rI, rL, rO, rV, mI_sQ, mL_sQ, mK_sQ, mS_sQ, mQ_s1, mQ_s2, tlX5_parseRange, tkX5_parseRange, o_aload, o_getI, o_goto, o_ic, o_icge, o_ifeq, o_ifne, o_iinc, o_iload, o_istore, o_putZ, o_vret, k0', e3]
      try simp +contextual (disch := omega) only [impF, impT, and_true, true_and, implies_true, not_false_eq_true, not_true_eq_false]
      refine x_callV (by decide +kernel) cv_X5_90 (sp_parsePart l G h2 g t n j hTg e2 hj e3 4 (by omega)) k0' (by omega) rfl (by omega) (by omega) rfl (Nat.le_of_ble_eq_true rfl) ?_
      rintro r h' ⟨rfl, g', rfl, hg', q2, q3, q4⟩
      have hg2 : f6 f g' := fun k a b c d e f => (hg' k a b c d e f).trans (hg k a b c d e f)
      generalize hy : pPart t n j = y at hpo q2 q3 q4 he
      obtain ⟨ok, j', lo', hi'⟩ := y
      simp only at hpo q2 q3 q4 he
      have hP' : RgP (sA h2 85 g') q 20 m := by rw [← hl]; exact hR.1.fr (Fr.sA (fun c => c = 85) h2 85 g' rfl) ⟨by omega, by omega, by omega⟩
      have hkq2 : (gK (sA h2 85 g') q).1 = 3 := hkq
      refine z_run1 tsX5_parseRange [8] 30 ?_
      simp (maxSteps := 1000000) -implicitDefEqProofs +contextual (disch := omega) only [z_wp_t, z_wp_u, ↓pI_e, ↓pL_e, ↓pO_e, ↓pR_e, ↓p1_I, ↓p1_O, z_gl, z_st1, z_st2, z_nl_I, z_nl_O, z_nl_J, z_nl_L, if_true, if_false, ite_true, ite_false, true_and, and_true, List.mem_cons, List.not_mem_nil, or_false, false_or, or_self, List.length_cons, List.length_nil, InR_t, InL_t, z_ix_t, mI_s1, mI_s2, ↓brT, ↓brF, ↓brT', ↓brF', mL_sI, mR_sI, mK_sI, mS_sI, mI_sL, mL_s1, mL_s2, mR_sL, mK_sL, mS_sL, mI_sR, mL_sR, mR_s1, mR_s2, mK_sR, mS_sR, mA_s1, mA_s2, mL_sA, mR_sA, mK_sA, mS_sA, ix_n, ix_a, ix_m, ix_s, z_sw, z_stop, forall_const, true_implies, false_implies, imp_self, implies_true, not_true_eq_false, not_false_eq_true, ne_eq, eq_self, Option.some.injEq, reduceCtorEq, Nat.reduceAdd, Nat.reduceSub, Nat.reduceMul, Nat.reduceEqDiff, Nat.reduceLT, Nat.reduceLeDiff, Int.reduceAdd, Int.reduceMul, Int.reduceSub, Int.reduceNeg, Int.reduceToNat, Int.reduceLT, Int.reduceLE, Int.reduceEq, ↓reduceIte, List.reverse_cons, Option.toList, List.cons_append, List.nil_append, vI_inj, vL_inj, vO_inj, rI, rL, rO, rV, mI_sQ, mL_sQ, mK_sQ, mS_sQ, mQ_s1, mQ_s2, tlX5_parseRange, tkX5_parseRange, o_aload, o_getI, o_goto, o_ic, o_icge, o_ifeq, o_ifne, o_iinc, o_iload, o_istore, o_putZ, o_vret, k0']
      try simp +contextual (disch := omega) only [impF, impT, and_true, true_and, implies_true, not_false_eq_true, not_true_eq_false]
      refine x_callV (by decide +kernel) cv_X5_99 (sp_Rg_append l G _ q 20 m (g' 10) (g' 11) hP' 1 (by omega)) hkq2 (by omega) rfl (by omega) (by omega) rfl (Nat.le_of_ble_eq_true rfl) ?_
      rintro r h' ⟨rfl, rfl⟩
      rw [if_pos (by omega), sI_sA_c _ (by omega), sI_sA_c _ (by omega), sI_sA_c _ (by omega)]
      have hfr3 : Fr (fun c => q ≤ c ∧ c ≤ q + 2) h2 (sI (sI (sI h2 (q + 1) m (g' 10)) (q + 2) m (g' 11)) q 2 (m + 1)) := Fr.tr' (Fr.tr' (Fr.sI _ _ _ _ _ ⟨by omega, by omega⟩) (Fr.sI _ _ _ _ _ ⟨by omega, by omega⟩) (fun _ q => q) (fun _ q => q)) (Fr.sI _ _ _ _ _ ⟨by omega, by omega⟩) (fun _ q => q) (fun _ q => q)
      have hfr4 := hfr.tr' hfr3 (fun _ q => q) (fun _ q => q)
      have hadd : InV (g' 10) → InV (g' 11) → RgL (sI (sI (sI h2 (q + 1) m (g' 10)) (q + 2) m (g' 11)) q 2 (m + 1)) q (acc ++ [(g' 10, g' 11)]) := fun a b => by
        have := hR.add (by omega) a b
        rw [hl] at this
        exact this
      have hS3 : RgS (sI (sI (sI h2 (q + 1) m (g' 10)) (q + 2) m (g' 11)) q 2 (m + 1)) q 20 := hR.1.1
      generalize hh3 : sI (sI (sI h2 (q + 1) m (g' 10)) (q + 2) m (g' 11)) q 2 (m + 1) = h3 at hfr3 hfr4 hadd hS3 ⊢
      have k03 : (gK h3 85).1 = 5 := by rw [hfr4.K]; exact k0
      have hTg3 : Tx h3 g' t n := (hT0.up (g := g') (hg2 1 (by decide) (by decide) (by decide) (by decide) (by decide) (by decide))).fr hfr4 ⟨by omega, by omega⟩
      cases ok
      · simp only [Bool.false_eq_true, if_false] at q3 he
        refine z_run1 tsX5_parseRange [8] 30 ?_
        simp (maxSteps := 1000000) -implicitDefEqProofs +contextual (disch := omega) only [z_wp_t, z_wp_u, ↓pI_e, ↓pL_e, ↓pO_e, ↓pR_e, ↓p1_I, ↓p1_O, z_gl, z_st1, z_st2, z_nl_I, z_nl_O, z_nl_J, z_nl_L, if_true, if_false, ite_true, ite_false, true_and, and_true, List.mem_cons, List.not_mem_nil, or_false, false_or, or_self, List.length_cons, List.length_nil, InR_t, InL_t, z_ix_t, mI_s1, mI_s2, ↓brT, ↓brF, ↓brT', ↓brF', mL_sI, mR_sI, mK_sI, mS_sI, mI_sL, mL_s1, mL_s2, mR_sL, mK_sL, mS_sL, mI_sR, mL_sR, mR_s1, mR_s2, mK_sR, mS_sR, mA_s1, mA_s2, mL_sA, mR_sA, mK_sA, mS_sA, ix_n, ix_a, ix_m, ix_s, z_sw, z_stop, forall_const, true_implies, false_implies, imp_self, implies_true, not_true_eq_false, not_false_eq_true, ne_eq, eq_self, Option.some.injEq, reduceCtorEq, Nat.reduceAdd, Nat.reduceSub, Nat.reduceMul, Nat.reduceEqDiff, Nat.reduceLT, Nat.reduceLeDiff, Int.reduceAdd, Int.reduceMul, Int.reduceSub, Int.reduceNeg, Int.reduceToNat, Int.reduceLT, Int.reduceLE, Int.reduceEq, ↓reduceIte, List.reverse_cons, Option.toList, List.cons_append, List.nil_append, vI_inj, vL_inj, vO_inj, rI, rL, rO, rV, mI_sQ, mL_sQ, mK_sQ, mS_sQ, mQ_s1, mQ_s2, tlX5_parseRange, tkX5_parseRange, o_aload, o_getI, o_goto, o_ic, o_icge, o_ifeq, o_ifne, o_iinc, o_iload, o_istore, o_putZ, o_vret, k03]
        try simp +contextual (disch := omega) only [impF, impT, and_true, true_and, implies_true, not_false_eq_true, not_true_eq_false]
        refine x_callV (by decide +kernel) cv_X5_52 (sp_take1 l G h3 g' t n 124 hTg3 q3 2 (by omega)) k03 (by omega) rfl (by omega) (by omega) rfl (Nat.le_of_ble_eq_true rfl) ?_
        rintro r h' ⟨rfl, rfl⟩
        have hend : z_X l G mtX5_parseRange lv 0 0 (QQ) 0 0 (sA h3 85 g') 8 [vR 85, vR q, vI 0, vI ((m : Int) + 1)] [] := by
          by_cases hm19 : m + 1 < 20
          · refine z_run1 tsX5_parseRange [] 30 ?_
            simp (maxSteps := 1000000) -implicitDefEqProofs +contextual (disch := omega) only [z_wp_t, z_wp_u, ↓pI_e, ↓pL_e, ↓pO_e, ↓pR_e, ↓p1_I, ↓p1_O, z_gl, z_st1, z_st2, z_nl_I, z_nl_O, z_nl_J, z_nl_L, if_true, if_false, ite_true, ite_false, true_and, and_true, List.mem_cons, List.not_mem_nil, or_false, false_or, or_self, List.length_cons, List.length_nil, InR_t, InL_t, z_ix_t, mI_s1, mI_s2, ↓brT, ↓brF, ↓brT', ↓brF', mL_sI, mR_sI, mK_sI, mS_sI, mI_sL, mL_s1, mL_s2, mR_sL, mK_sL, mS_sL, mI_sR, mL_sR, mR_s1, mR_s2, mK_sR, mS_sR, mA_s1, mA_s2, mL_sA, mR_sA, mK_sA, mS_sA, ix_n, ix_a, ix_m, ix_s, z_sw, z_stop, forall_const, true_implies, false_implies, imp_self, implies_true, not_true_eq_false, not_false_eq_true, ne_eq, eq_self, Option.some.injEq, reduceCtorEq, Nat.reduceAdd, Nat.reduceSub, Nat.reduceMul, Nat.reduceEqDiff, Nat.reduceLT, Nat.reduceLeDiff, Int.reduceAdd, Int.reduceMul, Int.reduceSub, Int.reduceNeg, Int.reduceToNat, Int.reduceLT, Int.reduceLE, Int.reduceEq, ↓reduceIte, List.reverse_cons, Option.toList, List.cons_append, List.nil_append, vI_inj, vL_inj, vO_inj, rI, rL, rO, rV, mI_sQ, mL_sQ, mK_sQ, mS_sQ, mQ_s1, mQ_s2, tlX5_parseRange, tkX5_parseRange, o_aload, o_getI, o_goto, o_ic, o_icge, o_ifeq, o_ifne, o_iinc, o_iload, o_istore, o_putZ, o_vret, k03]
            try simp +contextual (disch := omega) only [impF, impT, and_true, true_and, implies_true, not_false_eq_true, not_true_eq_false]
            rw [← hQ, he]
            exact ⟨rfl, h3, g', rfl, hfr4, hg2, q2, by rw [q3]; rfl, (fun q => by cases q), hS3⟩
          · refine z_run1 tsX5_parseRange [] 30 ?_
            simp (maxSteps := 1000000) -implicitDefEqProofs +contextual (disch := omega) only [z_wp_t, z_wp_u, ↓pI_e, ↓pL_e, ↓pO_e, ↓pR_e, ↓p1_I, ↓p1_O, z_gl, z_st1, z_st2, z_nl_I, z_nl_O, z_nl_J, z_nl_L, if_true, if_false, ite_true, ite_false, true_and, and_true, List.mem_cons, List.not_mem_nil, or_false, false_or, or_self, List.length_cons, List.length_nil, InR_t, InL_t, z_ix_t, mI_s1, mI_s2, ↓brT, ↓brF, ↓brT', ↓brF', mL_sI, mR_sI, mK_sI, mS_sI, mI_sL, mL_s1, mL_s2, mR_sL, mK_sL, mS_sL, mI_sR, mL_sR, mR_s1, mR_s2, mK_sR, mS_sR, mA_s1, mA_s2, mL_sA, mR_sA, mK_sA, mS_sA, ix_n, ix_a, ix_m, ix_s, z_sw, z_stop, forall_const, true_implies, false_implies, imp_self, implies_true, not_true_eq_false, not_false_eq_true, ne_eq, eq_self, Option.some.injEq, reduceCtorEq, Nat.reduceAdd, Nat.reduceSub, Nat.reduceMul, Nat.reduceEqDiff, Nat.reduceLT, Nat.reduceLeDiff, Int.reduceAdd, Int.reduceMul, Int.reduceSub, Int.reduceNeg, Int.reduceToNat, Int.reduceLT, Int.reduceLE, Int.reduceEq, ↓reduceIte, List.reverse_cons, Option.toList, List.cons_append, List.nil_append, vI_inj, vL_inj, vO_inj, rI, rL, rO, rV, mI_sQ, mL_sQ, mK_sQ, mS_sQ, mQ_s1, mQ_s2, tlX5_parseRange, tkX5_parseRange, o_aload, o_getI, o_goto, o_ic, o_icge, o_ifeq, o_ifne, o_iinc, o_iload, o_istore, o_putZ, o_vret, k03]
            try simp +contextual (disch := omega) only [impF, impT, and_true, true_and, implies_true, not_false_eq_true, not_true_eq_false]
            rw [← hQ, he]
            exact ⟨rfl, h3, g', rfl, hfr4, hg2, q2, by rw [q3]; rfl, (fun q => by cases q), hS3⟩
        refine z_run1 tsX5_parseRange [8] 30 ?_
        simp (maxSteps := 1000000) -implicitDefEqProofs +contextual (disch := omega) only [z_wp_t, z_wp_u, ↓pI_e, ↓pL_e, ↓pO_e, ↓pR_e, ↓p1_I, ↓p1_O, z_gl, z_st1, z_st2, z_nl_I, z_nl_O, z_nl_J, z_nl_L, if_true, if_false, ite_true, ite_false, true_and, and_true, List.mem_cons, List.not_mem_nil, or_false, false_or, or_self, List.length_cons, List.length_nil, InR_t, InL_t, z_ix_t, mI_s1, mI_s2, ↓brT, ↓brF, ↓brT', ↓brF', mL_sI, mR_sI, mK_sI, mS_sI, mI_sL, mL_s1, mL_s2, mR_sL, mK_sL, mS_sL, mI_sR, mL_sR, mR_s1, mR_s2, mK_sR, mS_sR, mA_s1, mA_s2, mL_sA, mR_sA, mK_sA, mS_sA, ix_n, ix_a, ix_m, ix_s, z_sw, z_stop, forall_const, true_implies, false_implies, imp_self, implies_true, not_true_eq_false, not_false_eq_true, ne_eq, eq_self, Option.some.injEq, reduceCtorEq, Nat.reduceAdd, Nat.reduceSub, Nat.reduceMul, Nat.reduceEqDiff, Nat.reduceLT, Nat.reduceLeDiff, Int.reduceAdd, Int.reduceMul, Int.reduceSub, Int.reduceNeg, Int.reduceToNat, Int.reduceLT, Int.reduceLE, Int.reduceEq, ↓reduceIte, List.reverse_cons, Option.toList, List.cons_append, List.nil_append, vI_inj, vL_inj, vO_inj, rI, rL, rO, rV, mI_sQ, mL_sQ, mK_sQ, mS_sQ, mQ_s1, mQ_s2, tlX5_parseRange, tkX5_parseRange, o_aload, o_getI, o_goto, o_ic, o_icge, o_ifeq, o_ifne, o_iinc, o_iload, o_istore, o_putZ, o_vret, k03]
        try simp +contextual (disch := omega) only [impF, impT, and_true, true_and, implies_true, not_false_eq_true, not_true_eq_false]
        exact hend
      · obtain ⟨v10, v11⟩ := q4 rfl
        obtain ⟨c1, c2⟩ := hpo.2.2 rfl
        simp only [if_true] at q3 he
        have hL3 := hadd (by unfold InV; omega) (by unfold InV; omega)
        rw [v10, v11] at hL3
        refine z_run1 tsX5_parseRange [8] 30 ?_
        simp (maxSteps := 1000000) -implicitDefEqProofs +contextual (disch := omega) only [z_wp_t, z_wp_u, ↓pI_e, ↓pL_e, ↓pO_e, ↓pR_e, ↓p1_I, ↓p1_O, z_gl, z_st1, z_st2, z_nl_I, z_nl_O, z_nl_J, z_nl_L, if_true, if_false, ite_true, ite_false, true_and, and_true, List.mem_cons, List.not_mem_nil, or_false, false_or, or_self, List.length_cons, List.length_nil, InR_t, InL_t, z_ix_t, mI_s1, mI_s2, ↓brT, ↓brF, ↓brT', ↓brF', mL_sI, mR_sI, mK_sI, mS_sI, mI_sL, mL_s1, mL_s2, mR_sL, mK_sL, mS_sL, mI_sR, mL_sR, mR_s1, mR_s2, mK_sR, mS_sR, mA_s1, mA_s2, mL_sA, mR_sA, mK_sA, mS_sA, ix_n, ix_a, ix_m, ix_s, z_sw, z_stop, forall_const, true_implies, false_implies, imp_self, implies_true, not_true_eq_false, not_false_eq_true, ne_eq, eq_self, Option.some.injEq, reduceCtorEq, Nat.reduceAdd, Nat.reduceSub, Nat.reduceMul, Nat.reduceEqDiff, Nat.reduceLT, Nat.reduceLeDiff, Int.reduceAdd, Int.reduceMul, Int.reduceSub, Int.reduceNeg, Int.reduceToNat, Int.reduceLT, Int.reduceLE, Int.reduceEq, ↓reduceIte, List.reverse_cons, Option.toList, List.cons_append, List.nil_append, vI_inj, vL_inj, vO_inj, rI, rL, rO, rV, mI_sQ, mL_sQ, mK_sQ, mS_sQ, mQ_s1, mQ_s2, tlX5_parseRange, tkX5_parseRange, o_aload, o_getI, o_goto, o_ic, o_icge, o_ifeq, o_ifne, o_iinc, o_iload, o_istore, o_putZ, o_vret, k03]
        try simp +contextual (disch := omega) only [impF, impT, and_true, true_and, implies_true, not_false_eq_true, not_true_eq_false]
        refine x_callV (by decide +kernel) cv_X5_52 (sp_take l G h3 g' t n j' 124 hTg3 q2 hpo.2.1 q3 (by omega) 2 (by omega)) k03 (by omega) rfl (by omega) (by omega) rfl (Nat.le_of_ble_eq_true rfl) ?_
        intro r h' hqq
        by_cases hbar : ck t n j' = 124
        · rw [if_pos hbar] at hqq he
          obtain ⟨rfl, rfl⟩ := hqq
          have hjn := ck_lt (t := t) (n := n) (i := j') (by omega)
          have hsk := sk_le t (n := n) (i := j' + 1) (by omega)
          have hnext := ih (m + 1) h3 (up g' 2 (sk t n (j' + 1) : Nat)) (sk t n (j' + 1)) (acc ++ [(lo', hi')]) (by omega) hfr4 (fun k a b c d e f => by rw [up_n _ _ a]; exact hg2 k a b c d e f) (by rw [up_s]) (by rw [up_n _ _ (by decide)]; exact q3) hsk.2 (by simp; omega) hL3 he
          refine z_run1 tsX5_parseRange [8] 30 ?_
          simp (maxSteps := 1000000) -implicitDefEqProofs +contextual (disch := omega) only [z_wp_t, z_wp_u, ↓pI_e, ↓pL_e, ↓pO_e, ↓pR_e, ↓p1_I, ↓p1_O, z_gl, z_st1, z_st2, z_nl_I, z_nl_O, z_nl_J, z_nl_L, if_true, if_false, ite_true, ite_false, true_and, and_true, List.mem_cons, List.not_mem_nil, or_false, false_or, or_self, List.length_cons, List.length_nil, InR_t, InL_t, z_ix_t, mI_s1, mI_s2, ↓brT, ↓brF, ↓brT', ↓brF', mL_sI, mR_sI, mK_sI, mS_sI, mI_sL, mL_s1, mL_s2, mR_sL, mK_sL, mS_sL, mI_sR, mL_sR, mR_s1, mR_s2, mK_sR, mS_sR, mA_s1, mA_s2, mL_sA, mR_sA, mK_sA, mS_sA, ix_n, ix_a, ix_m, ix_s, z_sw, z_stop, forall_const, true_implies, false_implies, imp_self, implies_true, not_true_eq_false, not_false_eq_true, ne_eq, eq_self, Option.some.injEq, reduceCtorEq, Nat.reduceAdd, Nat.reduceSub, Nat.reduceMul, Nat.reduceEqDiff, Nat.reduceLT, Nat.reduceLeDiff, Int.reduceAdd, Int.reduceMul, Int.reduceSub, Int.reduceNeg, Int.reduceToNat, Int.reduceLT, Int.reduceLE, Int.reduceEq, ↓reduceIte, List.reverse_cons, Option.toList, List.cons_append, List.nil_append, vI_inj, vL_inj, vO_inj, rI, rL, rO, rV, mI_sQ, mL_sQ, mK_sQ, mS_sQ, mQ_s1, mQ_s2, tlX5_parseRange, tkX5_parseRange, o_aload, o_getI, o_goto, o_ic, o_icge, o_ifeq, o_ifne, o_iinc, o_iload, o_istore, o_putZ, o_vret, k03]
          try simp +contextual (disch := omega) only [impF, impT, and_true, true_and, implies_true, not_false_eq_true, not_true_eq_false]
          exact hnext
        · rw [if_neg hbar] at hqq he
          obtain ⟨rfl, rfl⟩ := hqq
          have hend : z_X l G mtX5_parseRange lv 0 0 (QQ) 0 0 (sA h3 85 g') 8 [vR 85, vR q, vI 0, vI ((m : Int) + 1)] [] := by
            by_cases hm19 : m + 1 < 20
            · refine z_run1 tsX5_parseRange [] 30 ?_
              simp (maxSteps := 1000000) -implicitDefEqProofs +contextual (disch := omega) only [z_wp_t, z_wp_u, ↓pI_e, ↓pL_e, ↓pO_e, ↓pR_e, ↓p1_I, ↓p1_O, z_gl, z_st1, z_st2, z_nl_I, z_nl_O, z_nl_J, z_nl_L, if_true, if_false, ite_true, ite_false, true_and, and_true, List.mem_cons, List.not_mem_nil, or_false, false_or, or_self, List.length_cons, List.length_nil, InR_t, InL_t, z_ix_t, mI_s1, mI_s2, ↓brT, ↓brF, ↓brT', ↓brF', mL_sI, mR_sI, mK_sI, mS_sI, mI_sL, mL_s1, mL_s2, mR_sL, mK_sL, mS_sL, mI_sR, mL_sR, mR_s1, mR_s2, mK_sR, mS_sR, mA_s1, mA_s2, mL_sA, mR_sA, mK_sA, mS_sA, ix_n, ix_a, ix_m, ix_s, z_sw, z_stop, forall_const, true_implies, false_implies, imp_self, implies_true, not_true_eq_false, not_false_eq_true, ne_eq, eq_self, Option.some.injEq, reduceCtorEq, Nat.reduceAdd, Nat.reduceSub, Nat.reduceMul, Nat.reduceEqDiff, Nat.reduceLT, Nat.reduceLeDiff, Int.reduceAdd, Int.reduceMul, Int.reduceSub, Int.reduceNeg, Int.reduceToNat, Int.reduceLT, Int.reduceLE, Int.reduceEq, ↓reduceIte, List.reverse_cons, Option.toList, List.cons_append, List.nil_append, vI_inj, vL_inj, vO_inj, rI, rL, rO, rV, mI_sQ, mL_sQ, mK_sQ, mS_sQ, mQ_s1, mQ_s2, tlX5_parseRange, tkX5_parseRange, o_aload, o_getI, o_goto, o_ic, o_icge, o_ifeq, o_ifne, o_iinc, o_iload, o_istore, o_putZ, o_vret, k03]
              try simp +contextual (disch := omega) only [impF, impT, and_true, true_and, implies_true, not_false_eq_true, not_true_eq_false]
              rw [← hQ, he]
              exact ⟨rfl, h3, g', rfl, hfr4, hg2, q2, by rw [q3]; rfl, (fun _ => hL3), hS3⟩
            · refine z_run1 tsX5_parseRange [] 30 ?_
              simp (maxSteps := 1000000) -implicitDefEqProofs +contextual (disch := omega) only [z_wp_t, z_wp_u, ↓pI_e, ↓pL_e, ↓pO_e, ↓pR_e, ↓p1_I, ↓p1_O, z_gl, z_st1, z_st2, z_nl_I, z_nl_O, z_nl_J, z_nl_L, if_true, if_false, ite_true, ite_false, true_and, and_true, List.mem_cons, List.not_mem_nil, or_false, false_or, or_self, List.length_cons, List.length_nil, InR_t, InL_t, z_ix_t, mI_s1, mI_s2, ↓brT, ↓brF, ↓brT', ↓brF', mL_sI, mR_sI, mK_sI, mS_sI, mI_sL, mL_s1, mL_s2, mR_sL, mK_sL, mS_sL, mI_sR, mL_sR, mR_s1, mR_s2, mK_sR, mS_sR, mA_s1, mA_s2, mL_sA, mR_sA, mK_sA, mS_sA, ix_n, ix_a, ix_m, ix_s, z_sw, z_stop, forall_const, true_implies, false_implies, imp_self, implies_true, not_true_eq_false, not_false_eq_true, ne_eq, eq_self, Option.some.injEq, reduceCtorEq, Nat.reduceAdd, Nat.reduceSub, Nat.reduceMul, Nat.reduceEqDiff, Nat.reduceLT, Nat.reduceLeDiff, Int.reduceAdd, Int.reduceMul, Int.reduceSub, Int.reduceNeg, Int.reduceToNat, Int.reduceLT, Int.reduceLE, Int.reduceEq, ↓reduceIte, List.reverse_cons, Option.toList, List.cons_append, List.nil_append, vI_inj, vL_inj, vO_inj, rI, rL, rO, rV, mI_sQ, mL_sQ, mK_sQ, mS_sQ, mQ_s1, mQ_s2, tlX5_parseRange, tkX5_parseRange, o_aload, o_getI, o_goto, o_ic, o_icge, o_ifeq, o_ifne, o_iinc, o_iload, o_istore, o_putZ, o_vret, k03]
              try simp +contextual (disch := omega) only [impF, impT, and_true, true_and, implies_true, not_false_eq_true, not_true_eq_false]
              rw [← hQ, he]
              exact ⟨rfl, h3, g', rfl, hfr4, hg2, q2, by rw [q3]; rfl, (fun _ => hL3), hS3⟩
          refine z_run1 tsX5_parseRange [8] 30 ?_
          simp (maxSteps := 1000000) -implicitDefEqProofs +contextual (disch := omega) only [z_wp_t, z_wp_u, ↓pI_e, ↓pL_e, ↓pO_e, ↓pR_e, ↓p1_I, ↓p1_O, z_gl, z_st1, z_st2, z_nl_I, z_nl_O, z_nl_J, z_nl_L, if_true, if_false, ite_true, ite_false, true_and, and_true, List.mem_cons, List.not_mem_nil, or_false, false_or, or_self, List.length_cons, List.length_nil, InR_t, InL_t, z_ix_t, mI_s1, mI_s2, ↓brT, ↓brF, ↓brT', ↓brF', mL_sI, mR_sI, mK_sI, mS_sI, mI_sL, mL_s1, mL_s2, mR_sL, mK_sL, mS_sL, mI_sR, mL_sR, mR_s1, mR_s2, mK_sR, mS_sR, mA_s1, mA_s2, mL_sA, mR_sA, mK_sA, mS_sA, ix_n, ix_a, ix_m, ix_s, z_sw, z_stop, forall_const, true_implies, false_implies, imp_self, implies_true, not_true_eq_false, not_false_eq_true, ne_eq, eq_self, Option.some.injEq, reduceCtorEq, Nat.reduceAdd, Nat.reduceSub, Nat.reduceMul, Nat.reduceEqDiff, Nat.reduceLT, Nat.reduceLeDiff, Int.reduceAdd, Int.reduceMul, Int.reduceSub, Int.reduceNeg, Int.reduceToNat, Int.reduceLT, Int.reduceLE, Int.reduceEq, ↓reduceIte, List.reverse_cons, Option.toList, List.cons_append, List.nil_append, vI_inj, vL_inj, vO_inj, rI, rL, rO, rV, mI_sQ, mL_sQ, mK_sQ, mS_sQ, mQ_s1, mQ_s2, tlX5_parseRange, tkX5_parseRange, o_aload, o_getI, o_goto, o_ic, o_icge, o_ifeq, o_ifne, o_iinc, o_iload, o_istore, o_putZ, o_vret, k03]
          try simp +contextual (disch := omega) only [impF, impT, and_true, true_and, implies_true, not_false_eq_true, not_true_eq_false]
          exact hend
  have hkq : (gK (sA h 85 f) q).1 = 3 := hS.1
  refine x_enter [vR 85, vR q, vJ, vJ] (by decide +kernel) (by omega) rfl (Nat.le_of_ble_eq_true rfl) ?_
  generalize hQ : rgQ h f q (pRg t n 20 i []) = QQ at hlo ⊢
  refine z_run1 tsX5_parseRange [] 30 ?_
  simp (maxSteps := 1000000) -implicitDefEqProofs +contextual (disch := omega) only [z_wp_t, z_wp_u, ↓pI_e, ↓pL_e, ↓pO_e, ↓pR_e, ↓p1_I, ↓p1_O, z_gl, z_st1, z_st2, z_nl_I, z_nl_O, z_nl_J, z_nl_L, if_true, if_false, ite_true, ite_false, true_and, and_true, List.mem_cons, List.not_mem_nil, or_false, false_or, or_self, List.length_cons, List.length_nil, InR_t, InL_t, z_ix_t, mI_s1, mI_s2, ↓brT, ↓brF, ↓brT', ↓brF', mL_sI, mR_sI, mK_sI, mS_sI, mI_sL, mL_s1, mL_s2, mR_sL, mK_sL, mS_sL, mI_sR, mL_sR, mR_s1, mR_s2, mK_sR, mS_sR, mA_s1, mA_s2, mL_sA, mR_sA, mK_sA, mS_sA, ix_n, ix_a, ix_m, ix_s, z_sw, z_stop, forall_const, true_implies, false_implies, imp_self, implies_true, not_true_eq_false, not_false_eq_true, ne_eq, eq_self, Option.some.injEq, reduceCtorEq, Nat.reduceAdd, Nat.reduceSub, Nat.reduceMul, Nat.reduceEqDiff, Nat.reduceLT, Nat.reduceLeDiff, Int.reduceAdd, Int.reduceMul, Int.reduceSub, Int.reduceNeg, Int.reduceToNat, Int.reduceLT, Int.reduceLE, Int.reduceEq, ↓reduceIte, List.reverse_cons, Option.toList, List.cons_append, List.nil_append, vI_inj, vL_inj, vO_inj, rI, rL, rO, rV, mI_sQ, mL_sQ, mK_sQ, mS_sQ, mQ_s1, mQ_s2, tlX5_parseRange, tkX5_parseRange, o_aload, o_getI, o_goto, o_ic, o_icge, o_ifeq, o_ifne, o_iinc, o_iload, o_istore, o_putZ, o_vret, k0]
  try simp +contextual (disch := omega) only [impF, impT, and_true, true_and, implies_true, not_false_eq_true, not_true_eq_false]
  refine x_callV (by decide +kernel) cv_X5_65 (sp_Rg_empty l G _ q hkq 1 (by omega)) hkq (by omega) rfl (by omega) (by omega) rfl (Nat.le_of_ble_eq_true rfl) ?_
  rintro r h' ⟨rfl, rfl⟩
  rw [sI_sA_c _ (by omega)]
  have hfr : Fr (fun c => q ≤ c ∧ c ≤ q + 2) h (sI h q 2 0) := Fr.sI _ _ _ _ _ ⟨by omega, by omega⟩
  have hfin := hlo 20 0 (sI h q 2 0) f i [] (by omega) hfr (fun _ _ _ _ _ _ _ => rfl) hi hf3 hi40 rfl ⟨⟨hS, by rw [mI_s1]; rfl, by simp, fun i hi => by simp at hi⟩, fun k x hx => by simp at hx⟩ rfl
  refine z_run1 tsX5_parseRange [8] 30 ?_
  simp (maxSteps := 1000000) -implicitDefEqProofs +contextual (disch := omega) only [z_wp_t, z_wp_u, ↓pI_e, ↓pL_e, ↓pO_e, ↓pR_e, ↓p1_I, ↓p1_O, z_gl, z_st1, z_st2, z_nl_I, z_nl_O, z_nl_J, z_nl_L, if_true, if_false, ite_true, ite_false, true_and, and_true, List.mem_cons, List.not_mem_nil, or_false, false_or, or_self, List.length_cons, List.length_nil, InR_t, InL_t, z_ix_t, mI_s1, mI_s2, ↓brT, ↓brF, ↓brT', ↓brF', mL_sI, mR_sI, mK_sI, mS_sI, mI_sL, mL_s1, mL_s2, mR_sL, mK_sL, mS_sL, mI_sR, mL_sR, mR_s1, mR_s2, mK_sR, mS_sR, mA_s1, mA_s2, mL_sA, mR_sA, mK_sA, mS_sA, ix_n, ix_a, ix_m, ix_s, z_sw, z_stop, forall_const, true_implies, false_implies, imp_self, implies_true, not_true_eq_false, not_false_eq_true, ne_eq, eq_self, Option.some.injEq, reduceCtorEq, Nat.reduceAdd, Nat.reduceSub, Nat.reduceMul, Nat.reduceEqDiff, Nat.reduceLT, Nat.reduceLeDiff, Int.reduceAdd, Int.reduceMul, Int.reduceSub, Int.reduceNeg, Int.reduceToNat, Int.reduceLT, Int.reduceLE, Int.reduceEq, ↓reduceIte, List.reverse_cons, Option.toList, List.cons_append, List.nil_append, vI_inj, vL_inj, vO_inj, rI, rL, rO, rV, mI_sQ, mL_sQ, mK_sQ, mS_sQ, mQ_s1, mQ_s2, tlX5_parseRange, tkX5_parseRange, o_aload, o_getI, o_goto, o_ic, o_icge, o_ifeq, o_ifne, o_iinc, o_iload, o_istore, o_putZ, o_vret, k0]
  try simp +contextual (disch := omega) only [impF, impT, and_true, true_and, implies_true, not_false_eq_true, not_true_eq_false]
  exact hfin
