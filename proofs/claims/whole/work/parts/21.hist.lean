/-! History: the latest states, a list -/
def ShH (h : zH) : Prop := (gK h 33).1 = 0 ∧ gK h 34 = (13, 10) ∧ gR h 33 0 = some 34 ∧ (∀ i, i < 10 → gR h 34 i = some (35 + 5 * i)) ∧ ∀ i, i < 10 → ShS h (35 + 5 * i)
def HiOK (h : zH) (hs : List zA) : Prop := ShH h ∧ hs.length ≤ 10 ∧ gI h 33 2 = (hs.length : Int) ∧ ∃ o : Nat, o < 10 ∧ gI h 33 1 = (o : Int) ∧ ∀ j A, hs[j]? = some A → StOK h (35 + 5 * ((o + j) % 10)) A ∧ AOK A
def hPush (hs : List zA) (A : zA) : List zA := (if hs.length = 10 then hs.drop 1 else hs) ++ [A]
theorem HiOK.fr {S : Nat → Prop} {h h' : zH} (f : Fr S h h') (hs : ∀ q, S q → q < 33 ∨ (85 ≤ q ∧ q < 109)) {l : List zA} (hr : HiOK h l) : HiOK h' l := by
  obtain ⟨⟨h1, h2, h3, h4, h5⟩, h6, h7, o, h8, h9, h10⟩ := hr
  have n33 : ¬ S 33 := fun q => by have := hs _ q; omega
  have n34 : ¬ S 34 := fun q => by have := hs _ q; omega
  refine ⟨⟨by rw [f.K]; exact h1, by rw [f.K]; exact h2, by rw [f.R n33]; exact h3, by rw [f.R n34]; exact h4, fun i hi => (h5 i hi).fr f ⟨fun q => by have := hs _ q; omega, fun q => by have := hs _ q; omega⟩⟩, h6, by rw [f.I n33]; exact h7, o, h8, by rw [f.I n33]; exact h9, fun j A hj => ?_⟩
  obtain ⟨g1, g2⟩ := h10 j A hj
  exact ⟨g1.fr f (fun q hq c => by have := hs _ c; omega) (fun q q1 q2 c => by have := hs _ c; omega), g2⟩
theorem tmN {x y : Nat} (hy : 0 < y) : ((x : Int)).tmod (y : Int) = ((x % y : Nat) : Int) := by
  rw [Int.tmod_eq_emod_of_nonneg (by omega)]
  exact (Int.natCast_emod x y).symm
set_option maxHeartbeats 4000000 in
theorem sp_histSize (l : Launch) (G : zG) (h : zH) (hs : List zA) (hH : HiOK h hs) (lv : Nat) (hlv : 1 ≤ lv) : z_Sp l G mtX0_size lv 0 0 [vR 33] h (rI (hs.length : Int) h) := by
  have k0 := hH.1.1
  have h7 := hH.2.2.1
  refine x_enter [vR 33] (by decide +kernel) (by omega) rfl (Nat.le_of_ble_eq_true rfl) ?_
  refine z_run1 tsX0_size [] 10 ?_
  simp +contextual (disch := omega) only [z_wp_s, z_wp_0, pI_e, pL_e, pO_e, pR_e, p1_I, p1_O, z_gl, z_st1, z_st2, z_nl_I, z_nl_O, z_nl_J, z_nl_L, if_true, if_false, ite_true, ite_false, true_and, and_true, List.mem_cons, List.not_mem_nil, or_false, false_or, or_self, List.length_cons, List.length_nil, InR_t, InL_t, z_ix_t, mI_s1, mI_s2, ↓brT, ↓brF, ↓brT', ↓brF', mL_sI, mR_sI, mK_sI, mS_sI, mI_sL, mL_s1, mL_s2, mR_sL, mK_sL, mS_sL, mI_sR, mL_sR, mR_s1, mR_s2, mK_sR, mS_sR, mA_s1, mA_s2, mL_sA, mR_sA, mK_sA, mS_sA, ix_n, ix_a, ix_m, ix_s, z_sw, z_stop, forall_const, true_implies, false_implies, imp_self, implies_true, not_true_eq_false, not_false_eq_true, ne_eq, eq_self, Option.some.injEq, reduceCtorEq, Nat.reduceAdd, Nat.reduceSub, Nat.reduceMul, Nat.reduceEqDiff, Nat.reduceLT, Nat.reduceLeDiff, Int.reduceAdd, Int.reduceMul, Int.reduceSub, Int.reduceNeg, Int.reduceToNat, Int.reduceLT, Int.reduceLE, Int.reduceEq, ↓reduceIte, List.reverse_cons, Option.toList, List.cons_append, List.nil_append, vI_inj, vL_inj, vO_inj, rI, rL, rO, rV, mI_sQ, mL_sQ, mK_sQ, mS_sQ, mQ_s1, mQ_s2, tlX0_size, o_aload, o_getI, o_iret, k0, h7]
set_option maxHeartbeats 4000000 in
theorem sp_histKeep (l : Launch) (G : zG) (h : zH) (b : Nat) (A : zA) (hs : List zA) (hH : HiOK h hs) (hS : StOK h b A) (hA : AOK A) (hb : b + 4 < 33) (lv : Nat) (hlv : 2 ≤ lv) : z_Sp l G mtX0_keep lv 0 0 [vR 33, vR b] h (fun r h' => r = none ∧ Fr (fun c => 33 ≤ c ∧ c ≤ 84) h h' ∧ HiOK h' (hPush hs A)) := by
  have hH0 := hH
  obtain ⟨⟨k0, k1, r0, r1, hsh⟩, hlen, hu, o, ho, hold, hst⟩ := hH
  refine x_enter [vR 33, vR b, vJ] (by decide +kernel) (by omega) rfl (Nat.le_of_ble_eq_true rfl) ?_
  have main : ∀ (h1 : zH) (hs1 : List zA) (o1 : Nat), ShH h1 → StOK h1 b A → hs1.length < 10 → gI h1 33 2 = (hs1.length : Int) → o1 < 10 → gI h1 33 1 = (o1 : Int) → (∀ j A, hs1[j]? = some A → StOK h1 (35 + 5 * ((o1 + j) % 10)) A ∧ AOK A) → Fr (fun c => 33 ≤ c ∧ c ≤ 84) h h1 → hPush hs A = hs1 ++ [A] → z_X l G mtX0_keep lv 0 0 (fun r h' => r = none ∧ Fr (fun c => 33 ≤ c ∧ c ≤ 84) h h' ∧ HiOK h' (hPush hs A)) 0 0 (h1) 32 [vR 33, vR b, vJ] [] := by
    intro h1 hs1 o1 hSh hS1 hl1 hu1 ho1 hold1 hst1 hfr hpush
    obtain ⟨k0, k1, r0, r1, hsh⟩ := hSh
    have em : ((o1 : Int) + (hs1.length : Int)).tmod 10 = (((o1 + hs1.length) % 10 : Nat) : Int) := tmN (x := o1 + hs1.length) (y := 10) (by omega)
    have hm : (o1 + hs1.length) % 10 < 10 := Nat.mod_lt _ (by omega)
    generalize hmm : (o1 + hs1.length) % 10 = m at em hm
    have e34 := r1 m hm
    refine z_run1 tsX0_keep [] 30 ?_
    simp +contextual (disch := omega) only [z_wp_s, z_wp_0, pI_e, pL_e, pO_e, pR_e, p1_I, p1_O, z_gl, z_st1, z_st2, z_nl_I, z_nl_O, z_nl_J, z_nl_L, if_true, if_false, ite_true, ite_false, true_and, and_true, List.mem_cons, List.not_mem_nil, or_false, false_or, or_self, List.length_cons, List.length_nil, InR_t, InL_t, z_ix_t, mI_s1, mI_s2, ↓brT, ↓brF, ↓brT', ↓brF', mL_sI, mR_sI, mK_sI, mS_sI, mI_sL, mL_s1, mL_s2, mR_sL, mK_sL, mS_sL, mI_sR, mL_sR, mR_s1, mR_s2, mK_sR, mS_sR, mA_s1, mA_s2, mL_sA, mR_sA, mK_sA, mS_sA, ix_n, ix_a, ix_m, ix_s, z_sw, z_stop, forall_const, true_implies, false_implies, imp_self, implies_true, not_true_eq_false, not_false_eq_true, ne_eq, eq_self, Option.some.injEq, reduceCtorEq, Nat.reduceAdd, Nat.reduceSub, Nat.reduceMul, Nat.reduceEqDiff, Nat.reduceLT, Nat.reduceLeDiff, Int.reduceAdd, Int.reduceMul, Int.reduceSub, Int.reduceNeg, Int.reduceToNat, Int.reduceLT, Int.reduceLE, Int.reduceEq, ↓reduceIte, List.reverse_cons, Option.toList, List.cons_append, List.nil_append, vI_inj, vL_inj, vO_inj, rI, rL, rO, rV, mI_sQ, mL_sQ, mK_sQ, mS_sQ, mQ_s1, mQ_s2, tlX0_keep, tkX0_keep, o_aald, o_aload, o_astore, o_dup, o_getI, o_getR, o_iadd, o_ic, o_icne, o_ifnull, o_irem, o_isub, o_putI, o_vret, k0, k1, r0, hu1, hold1, em, e34]
    refine x_callV (by decide +kernel) cv_X0_25 (sp_copyFrom l G _ (35 + 5 * m) b A (hsh m hm) hS1 hA (by omega) (by omega) 1 (by omega)) (hsh m hm).1 (by omega) rfl (by omega) (by omega) rfl (Nat.le_of_ble_eq_true rfl) ?_
    rintro r h2 ⟨rfl, hf2, hS2⟩
    have k0' : (gK h2 33).1 = 0 := by rw [hf2.K]; exact k0
    have hu' : gI h2 33 2 = (hs1.length : Int) := by rw [hf2.I (by omega)]; exact hu1
    refine z_run1 tsX0_keep [] 30 ?_
    simp +contextual (disch := omega) only [z_wp_s, z_wp_0, pI_e, pL_e, pO_e, pR_e, p1_I, p1_O, z_gl, z_st1, z_st2, z_nl_I, z_nl_O, z_nl_J, z_nl_L, if_true, if_false, ite_true, ite_false, true_and, and_true, List.mem_cons, List.not_mem_nil, or_false, false_or, or_self, List.length_cons, List.length_nil, InR_t, InL_t, z_ix_t, mI_s1, mI_s2, ↓brT, ↓brF, ↓brT', ↓brF', mL_sI, mR_sI, mK_sI, mS_sI, mI_sL, mL_s1, mL_s2, mR_sL, mK_sL, mS_sL, mI_sR, mL_sR, mR_s1, mR_s2, mK_sR, mS_sR, mA_s1, mA_s2, mL_sA, mR_sA, mK_sA, mS_sA, ix_n, ix_a, ix_m, ix_s, z_sw, z_stop, forall_const, true_implies, false_implies, imp_self, implies_true, not_true_eq_false, not_false_eq_true, ne_eq, eq_self, Option.some.injEq, reduceCtorEq, Nat.reduceAdd, Nat.reduceSub, Nat.reduceMul, Nat.reduceEqDiff, Nat.reduceLT, Nat.reduceLeDiff, Int.reduceAdd, Int.reduceMul, Int.reduceSub, Int.reduceNeg, Int.reduceToNat, Int.reduceLT, Int.reduceLE, Int.reduceEq, ↓reduceIte, List.reverse_cons, Option.toList, List.cons_append, List.nil_append, vI_inj, vL_inj, vO_inj, rI, rL, rO, rV, mI_sQ, mL_sQ, mK_sQ, mS_sQ, mQ_s1, mQ_s2, tlX0_keep, tkX0_keep, o_aald, o_aload, o_astore, o_dup, o_getI, o_getR, o_iadd, o_ic, o_icne, o_ifnull, o_irem, o_isub, o_putI, o_vret, k0', hu']
    have hfr2 : Fr (fun c => c = 33) h2 (sI h2 33 2 (hs1.length + 1)) := Fr.sI _ _ _ _ _ rfl
    refine ⟨(hfr.tr' hf2 (fun _ q => q) (fun c q => by omega)).tr' hfr2 (fun _ q => q) (fun c q => by omega), ?_⟩
    rw [hpush]
    have hShS : ∀ i, i < 10 → ShS (sI h2 33 2 (hs1.length + 1)) (35 + 5 * i) := by
      intro i hi
      by_cases him : i = m
      · subst him
        exact hS2.1.fr hfr2 ⟨by omega, by omega⟩
      · exact ((hsh i hi).fr hf2 ⟨by omega, by omega⟩).fr hfr2 ⟨by omega, by omega⟩
    refine ⟨⟨k0', by rw [mK_sI, hf2.K]; exact k1, by rw [mR_sI, hf2.R (by omega)]; exact r0, by rw [mR_sI, hf2.R (by omega)]; exact r1, hShS⟩, by simp; omega, by rw [mI_s1]; simp, o1, ho1, ?_, ?_⟩
    · rw [mI_s2 _ _ (Or.inr (by omega)), hf2.I (by omega)]
      exact hold1
    · intro j B hj
      by_cases hjl : j < hs1.length
      · rw [List.getElem?_append_left hjl] at hj
        obtain ⟨g1, g2⟩ := hst1 j B hj
        exact ⟨(g1.fr hf2 (fun q hq => by omega) (fun q q1 q2 => by omega)).fr hfr2 (fun q hq => by omega) (fun q q1 q2 => by omega), g2⟩
      · rw [List.getElem?_append_right (by omega)] at hj
        have hz : j - hs1.length < 1 := (List.getElem?_eq_some_iff.mp hj).1
        rw [show j - hs1.length = 0 by omega] at hj
        cases hj
        rw [show j = hs1.length by omega, hmm]
        exact ⟨hS2.fr hfr2 (fun q hq => by omega) (fun q q1 q2 => by omega), hA⟩
  by_cases h10 : hs.length = 10
  · have em : ((o : Int) + 1).tmod 10 = (((o + 1) % 10 : Nat) : Int) := tmN (x := o + 1) (y := 10) (by omega)
    refine z_run1 tsX0_keep [32] 30 ?_
    simp +contextual (disch := omega) only [z_wp_s, z_wp_0, pI_e, pL_e, pO_e, pR_e, p1_I, p1_O, z_gl, z_st1, z_st2, z_nl_I, z_nl_O, z_nl_J, z_nl_L, if_true, if_false, ite_true, ite_false, true_and, and_true, List.mem_cons, List.not_mem_nil, or_false, false_or, or_self, List.length_cons, List.length_nil, InR_t, InL_t, z_ix_t, mI_s1, mI_s2, ↓brT, ↓brF, ↓brT', ↓brF', mL_sI, mR_sI, mK_sI, mS_sI, mI_sL, mL_s1, mL_s2, mR_sL, mK_sL, mS_sL, mI_sR, mL_sR, mR_s1, mR_s2, mK_sR, mS_sR, mA_s1, mA_s2, mL_sA, mR_sA, mK_sA, mS_sA, ix_n, ix_a, ix_m, ix_s, z_sw, z_stop, forall_const, true_implies, false_implies, imp_self, implies_true, not_true_eq_false, not_false_eq_true, ne_eq, eq_self, Option.some.injEq, reduceCtorEq, Nat.reduceAdd, Nat.reduceSub, Nat.reduceMul, Nat.reduceEqDiff, Nat.reduceLT, Nat.reduceLeDiff, Int.reduceAdd, Int.reduceMul, Int.reduceSub, Int.reduceNeg, Int.reduceToNat, Int.reduceLT, Int.reduceLE, Int.reduceEq, ↓reduceIte, List.reverse_cons, Option.toList, List.cons_append, List.nil_append, vI_inj, vL_inj, vO_inj, rI, rL, rO, rV, mI_sQ, mL_sQ, mK_sQ, mS_sQ, mQ_s1, mQ_s2, tlX0_keep, tkX0_keep, o_aald, o_aload, o_astore, o_dup, o_getI, o_getR, o_iadd, o_ic, o_icne, o_ifnull, o_irem, o_isub, o_putI, o_vret, k0, hu, hold, em]
    have hfr2 : Fr (fun c => c = 33) h (sI (sI h 33 1 (((o + 1) % 10 : Nat) : Int)) 33 2 (hs.length - 1)) := (Fr.sI (fun c => c = 33) _ _ _ _ rfl).tr' (Fr.sI (fun c => c = 33) _ _ _ _ rfl) (fun _ q => q) (fun _ q => q)
    refine main _ (hs.drop 1) ((o + 1) % 10) ⟨k0, k1, r0, r1, fun i hi => (hsh i hi).fr hfr2 ⟨by omega, by omega⟩⟩ (hS.fr hfr2 (fun q hq => by omega) (fun q q1 q2 => by omega)) (by simp; omega) (by rw [mI_s1]; simp; omega) (by omega) (by rw [mI_s2 _ _ (Or.inr (by omega)), mI_s1]) ?_ (hfr2.mono (fun c q => by omega)) (by simp [hPush, h10])
    intro j B hj
    rw [List.getElem?_drop] at hj
    obtain ⟨g1, g2⟩ := hst _ B hj
    rw [show ((o + 1) % 10 + j) % 10 = (o + (1 + j)) % 10 by omega]
    exact ⟨g1.fr hfr2 (fun q hq => by omega) (fun q q1 q2 => by omega), g2⟩
  · refine z_run1 tsX0_keep [32] 30 ?_
    simp +contextual (disch := omega) only [z_wp_s, z_wp_0, pI_e, pL_e, pO_e, pR_e, p1_I, p1_O, z_gl, z_st1, z_st2, z_nl_I, z_nl_O, z_nl_J, z_nl_L, if_true, if_false, ite_true, ite_false, true_and, and_true, List.mem_cons, List.not_mem_nil, or_false, false_or, or_self, List.length_cons, List.length_nil, InR_t, InL_t, z_ix_t, mI_s1, mI_s2, ↓brT, ↓brF, ↓brT', ↓brF', mL_sI, mR_sI, mK_sI, mS_sI, mI_sL, mL_s1, mL_s2, mR_sL, mK_sL, mS_sL, mI_sR, mL_sR, mR_s1, mR_s2, mK_sR, mS_sR, mA_s1, mA_s2, mL_sA, mR_sA, mK_sA, mS_sA, ix_n, ix_a, ix_m, ix_s, z_sw, z_stop, forall_const, true_implies, false_implies, imp_self, implies_true, not_true_eq_false, not_false_eq_true, ne_eq, eq_self, Option.some.injEq, reduceCtorEq, Nat.reduceAdd, Nat.reduceSub, Nat.reduceMul, Nat.reduceEqDiff, Nat.reduceLT, Nat.reduceLeDiff, Int.reduceAdd, Int.reduceMul, Int.reduceSub, Int.reduceNeg, Int.reduceToNat, Int.reduceLT, Int.reduceLE, Int.reduceEq, ↓reduceIte, List.reverse_cons, Option.toList, List.cons_append, List.nil_append, vI_inj, vL_inj, vO_inj, rI, rL, rO, rV, mI_sQ, mL_sQ, mK_sQ, mS_sQ, mQ_s1, mQ_s2, tlX0_keep, tkX0_keep, o_aald, o_aload, o_astore, o_dup, o_getI, o_getR, o_iadd, o_ic, o_icne, o_ifnull, o_irem, o_isub, o_putI, o_vret, k0, hu, hold]
    exact main h hs o hH0.1 hS (by omega) hu ho hold hst Fr.rf (by simp [hPush, h10])
set_option maxHeartbeats 4000000 in
theorem sp_histBack (l : Launch) (G : zG) (h : zH) (b : Nat) (A : zA) (hs : List zA) (hH : HiOK h (hs ++ [A])) (hS : ShS h b) (hA : AOK A) (hb : b + 4 < 33) (lv : Nat) (hlv : 2 ≤ lv) : z_Sp l G mtX0_giveBack lv 0 0 [vR 33, vR b] h (fun r h' => r = none ∧ Fr (fun c => c = 33 ∨ (b ≤ c ∧ c ≤ b + 4)) h h' ∧ HiOK h' hs ∧ StOK h' b A) := by
  obtain ⟨⟨k0, k1, r0, r1, hsh⟩, hlen, hu, o, ho, hold, hst⟩ := hH
  have hl1 : (hs ++ [A]).length = hs.length + 1 := by simp
  rw [hl1] at hlen hu
  have hu2 : gI h 33 2 = (hs.length : Int) + 1 := by rw [hu]; omega
  have em : ((o : Int) + (hs.length : Int)).tmod 10 = (((o + hs.length) % 10 : Nat) : Int) := tmN (x := o + hs.length) (y := 10) (by omega)
  have hm : (o + hs.length) % 10 < 10 := Nat.mod_lt _ (by omega)
  obtain ⟨g1, g2⟩ := hst hs.length A (by simp)
  generalize hmm : (o + hs.length) % 10 = m at em hm g1
  have e34 := r1 m hm
  refine x_enter [vR 33, vR b, vJ] (by decide +kernel) (by omega) rfl (Nat.le_of_ble_eq_true rfl) ?_
  refine z_run1 tsX0_giveBack [] 40 ?_
  simp +contextual (disch := omega) only [z_wp_s, z_wp_0, pI_e, pL_e, pO_e, pR_e, p1_I, p1_O, z_gl, z_st1, z_st2, z_nl_I, z_nl_O, z_nl_J, z_nl_L, if_true, if_false, ite_true, ite_false, true_and, and_true, List.mem_cons, List.not_mem_nil, or_false, false_or, or_self, List.length_cons, List.length_nil, InR_t, InL_t, z_ix_t, mI_s1, mI_s2, ↓brT, ↓brF, ↓brT', ↓brF', mL_sI, mR_sI, mK_sI, mS_sI, mI_sL, mL_s1, mL_s2, mR_sL, mK_sL, mS_sL, mI_sR, mL_sR, mR_s1, mR_s2, mK_sR, mS_sR, mA_s1, mA_s2, mL_sA, mR_sA, mK_sA, mS_sA, ix_n, ix_a, ix_m, ix_s, z_sw, z_stop, forall_const, true_implies, false_implies, imp_self, implies_true, not_true_eq_false, not_false_eq_true, ne_eq, eq_self, Option.some.injEq, reduceCtorEq, Nat.reduceAdd, Nat.reduceSub, Nat.reduceMul, Nat.reduceEqDiff, Nat.reduceLT, Nat.reduceLeDiff, Int.reduceAdd, Int.reduceMul, Int.reduceSub, Int.reduceNeg, Int.reduceToNat, Int.reduceLT, Int.reduceLE, Int.reduceEq, ↓reduceIte, List.reverse_cons, Option.toList, List.cons_append, List.nil_append, vI_inj, vL_inj, vO_inj, rI, rL, rO, rV, mI_sQ, mL_sQ, mK_sQ, mS_sQ, mQ_s1, mQ_s2, tlX0_giveBack, tkX0_giveBack, o_aald, o_aload, o_astore, o_dup, o_getI, o_getR, o_iadd, o_ic, o_ifne, o_ifnull, o_irem, o_isub, o_putI, o_vret, k0, k1, r0, hu2, hold, em, e34, Int.add_sub_cancel]
  have hfr1 : Fr (fun c => c = 33) h (sI h 33 2 hs.length) := Fr.sI _ _ _ _ _ rfl
  refine x_callV (by decide +kernel) cv_X0_25 (sp_copyFrom l G _ b (35 + 5 * m) A (hS.fr hfr1 ⟨by omega, by omega⟩) (g1.fr hfr1 (fun q hq => by omega) (fun q q1 q2 => by omega)) hA (by omega) (by omega) 1 (by omega)) hS.1 (by omega) rfl (by omega) (by omega) rfl (Nat.le_of_ble_eq_true rfl) ?_
  rintro r h2 ⟨rfl, hf2, hS2⟩
  refine z_run1 tsX0_giveBack [] 30 ?_
  simp +contextual (disch := omega) only [z_wp_s, z_wp_0, pI_e, pL_e, pO_e, pR_e, p1_I, p1_O, z_gl, z_st1, z_st2, z_nl_I, z_nl_O, z_nl_J, z_nl_L, if_true, if_false, ite_true, ite_false, true_and, and_true, List.mem_cons, List.not_mem_nil, or_false, false_or, or_self, List.length_cons, List.length_nil, InR_t, InL_t, z_ix_t, mI_s1, mI_s2, ↓brT, ↓brF, ↓brT', ↓brF', mL_sI, mR_sI, mK_sI, mS_sI, mI_sL, mL_s1, mL_s2, mR_sL, mK_sL, mS_sL, mI_sR, mL_sR, mR_s1, mR_s2, mK_sR, mS_sR, mA_s1, mA_s2, mL_sA, mR_sA, mK_sA, mS_sA, ix_n, ix_a, ix_m, ix_s, z_sw, z_stop, forall_const, true_implies, false_implies, imp_self, implies_true, not_true_eq_false, not_false_eq_true, ne_eq, eq_self, Option.some.injEq, reduceCtorEq, Nat.reduceAdd, Nat.reduceSub, Nat.reduceMul, Nat.reduceEqDiff, Nat.reduceLT, Nat.reduceLeDiff, Int.reduceAdd, Int.reduceMul, Int.reduceSub, Int.reduceNeg, Int.reduceToNat, Int.reduceLT, Int.reduceLE, Int.reduceEq, ↓reduceIte, List.reverse_cons, Option.toList, List.cons_append, List.nil_append, vI_inj, vL_inj, vO_inj, rI, rL, rO, rV, mI_sQ, mL_sQ, mK_sQ, mS_sQ, mQ_s1, mQ_s2, tlX0_giveBack, tkX0_giveBack, o_aald, o_aload, o_astore, o_dup, o_getI, o_getR, o_iadd, o_ic, o_ifne, o_ifnull, o_irem, o_isub, o_putI, o_vret]
  have hfr3 := hfr1.tr hf2
  refine ⟨hfr3, ⟨⟨by rw [hfr3.K]; exact k0, by rw [hfr3.K]; exact k1, by rw [hf2.R (by omega)]; exact r0, by rw [hf2.R (by omega)]; exact r1, fun i hi => (hsh i hi).fr hfr3 ⟨by omega, by omega⟩⟩, by omega, by rw [hf2.I (by omega), mI_s1], o, ho, by rw [hf2.I (by omega), mI_s2 _ _ (Or.inr (by omega))]; exact hold, ?_⟩, hS2⟩
  intro j B hj
  have hjl : j < hs.length := (List.getElem?_eq_some_iff.mp hj).1
  obtain ⟨q1, q2⟩ := hst j B (by rw [List.getElem?_append_left hjl]; exact hj)
  exact ⟨q1.fr hfr3 (fun q hq => by omega) (fun q q1 q2 => by omega), q2⟩
