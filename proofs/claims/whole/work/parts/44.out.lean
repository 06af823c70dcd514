/-! Outcome: what is known of a state -/
theorem tb_act {A : zA} (hA : AOK A) : tb (actM A (aC A)) = actS A := by
  funext i
  rw [actM_b A i _ (by have := hA.2.2.2.2.1; omega)]
  rfl
theorem act_R {A : zA} (hA : AOK A) : 0 ≤ actM A (aC A) ∧ actM A (aC A) < 1048576 := by
  have h20 := hA.2.2.2.2.1
  have := tb_small (n := 20) (by omega) (actM_R A (aC A)) (fun i h1 h2 => by rw [tb_act hA]; unfold actS; simp; omega)
  exact this
theorem act_lt {A : zA} : ∀ r, actS A r = true → r < aC A := fun r h => by
  unfold actS at h
  simp at h
  exact h.1
def rfS (A : zA) : Nat → Nat → Bool
  | 0 => actS A
  | n + 1 => if rfS A n n && !slv A (fun r => rfS A n r && decide (r ≠ n)) then (fun r => rfS A n r && decide (r ≠ n)) else rfS A n
def OcS (o : Nat) : Nat → Prop := fun c => c = o ∨ (o + 6 ≤ c ∧ c ≤ o + 15)
/-! reasons: sequences of rules -/
def req (A : zA) (t : Nat → Nat) (r : Nat) : Bool := actS A r && (decide (rB (aR A r) = 0) && apB A r t)
/-- a sequence of rules from a package (-1: none) to a package -/
def Chn (A : zA) (t : Nat → Nat) : Int → List Nat → Int → Prop
  | b, [], e => b = e
  | b, r :: l, e => req A t r = true ∧ rC (aR A r) = b ∧ Chn A t (rT (aR A r)) l e
/-- shorter, or as long and not greater -/
def lexL : List Nat → List Nat → Prop
  | [], _ => True
  | _ :: _, [] => False
  | a :: l, b :: m => a < b ∨ (a = b ∧ lexL l m)
def pLe (l m : List Nat) : Prop := l.length < m.length ∨ (l.length = m.length ∧ lexL l m)
def IsWhy (A : zA) (t : Nat → Nat) (q : Nat) (l : List Nat) : Prop := l ≠ [] ∧ Chn A t (-1) l (q : Int) ∧ ∀ m, m ≠ [] → Chn A t (-1) m (q : Int) → pLe l m
def BfOK (h : zH) (o : Nat) (A : zA) (t : Nat → Nat) : Prop := ∃ P : Nat → List Nat, (∀ q, q < 8 → gI h (o + 14) q = ((P q).length : Int) ∧ (P q).length ≤ 8) ∧ (∀ q, q < 8 → P q ≠ [] → ∃ r : Nat, r < 20 ∧ gI h (o + 12) q = (r : Int) ∧ ((gI h (o + 13) q = -1 ∧ P q = [r]) ∨ ∃ b : Nat, b < 8 ∧ gI h (o + 13) q = (b : Int) ∧ P b ≠ [] ∧ P q = P b ++ [r])) ∧ ∀ q, q < 8 → (P q = [] → ∀ m, m ≠ [] → ¬ Chn A t (-1) m (q : Int)) ∧ (P q ≠ [] → IsWhy A t q (P q))
def oc3 (h : zH) (o : Nat) (A : zA) : Prop := gI h o 2 = actM A (aC A) ∧ PzD h (o + 6) A ∧ PzI h (o + 6) A
def oc5 (h : zH) (o : Nat) (A : zA) : Prop := InL (gL h o 4) ∧ encO (gL h o 4) (bestA A)
def oc7 (h : zH) (o : Nat) (A : zA) : Prop := ∃ X, bX (gL h o 6) X ∧ NarOK A (actS A) X
def oc9 (h : zH) (o : Nat) (A : zA) : Prop := (0 ≤ gI h o 8 ∧ gI h o 8 < 1048576) ∧ tb (gI h o 8) = rfS A 20
def ocA (h : zH) (o : Nat) (A : zA) : Prop := ∃ t, bestA A = some t ∧ BfOK h o A t
def fl (h : zH) (o k : Nat) (P : Prop) : Prop := gI h o k = 0 ∨ (gI h o k = 1 ∧ P)
def OcOK (h : zH) (o : Nat) (A : zA) : Prop := (ShO h o ∧ StOK h (o + 1) A ∧ NlOK h (o + 6)) ∧ fl h o 3 (oc3 h o A) ∧ fl h o 5 (gI h o 3 = 1 ∧ oc5 h o A) ∧ fl h o 7 (gI h o 3 = 1 ∧ oc7 h o A) ∧ fl h o 9 (gI h o 3 = 1 ∧ oc9 h o A) ∧ fl h o 10 (gI h o 5 = 1 ∧ ocA h o A)
def OcK (h h' : zH) (o : Nat) (A : zA) : Prop := Fr (OcS o) h h' ∧ gR h' = gR h ∧ OcOK h' o A
theorem OcK.tr {h h1 h2 : zH} {o : Nat} {A : zA} (a : OcK h h1 o A) (b : OcK h1 h2 o A) : OcK h h2 o A := ⟨a.1.tr' b.1 (fun _ q => q) (fun _ q => q), b.2.1.trans a.2.1, b.2.2⟩
theorem OcK.rf {h : zH} {o : Nat} {A : zA} (a : OcOK h o A) : OcK h h o A := ⟨Fr.rf, rfl, a⟩
theorem oc_base {h h' : zH} {o : Nat} {A : zA} (ho : o + 15 < 109) (hb : ShO h o ∧ StOK h (o + 1) A) (f : Fr (OcS o) h h') (hR : gR h' = gR h) : ShO h' o ∧ StOK h' (o + 1) A :=
  ⟨hb.1.ofR f.K (by rw [hR]) (by rw [hR]), hb.2.fr f (fun q hq c => by unfold OcS at c; omega) (fun q q1 q2 c => by unfold OcS at c; omega)⟩
theorem PzD.fr {S : Nat → Prop} {h h' : zH} {z : Nat} {A : zA} (f : Fr S h h') (hs : ∀ c, z ≤ c → c ≤ z + 4 → ¬ S c) (hD : PzD h z A) : PzD h' z A := by
  refine ⟨fun r hr => (hD.1 r hr).o ?_ ?_ ?_ ?_, ?_, ?_⟩
  · rw [f.I (hs _ (by omega) (by omega))]
  · rw [f.I (hs _ (by omega) (by omega))]
  · rw [f.I (hs _ (by omega) (by omega))]
  · rw [f.I (hs _ (by omega) (by omega))]
  · rw [f.L (hs _ (by omega) (by omega))]; exact hD.2.1
  · rw [f.L (hs _ (by omega) (by omega))]; exact hD.2.2
theorem ImpOK.fr {S : Nat → Prop} {h h' : zH} {z : Nat} {A : zA} {T : Nat → Bool} (f : Fr S h h') (h1 : ¬ S z) (h2 : ¬ S (z + 5)) (hI : ImpOK h z A T) : ImpOK h' z A T := by
  unfold ImpOK
  rw [f.L h1, f.L h2]
  exact hI
theorem PzI.fr {S : Nat → Prop} {h h' : zH} {z : Nat} {A : zA} (f : Fr S h h') (h1 : ¬ S z) (h2 : ¬ S (z + 5)) (hI : PzI h z A) : PzI h' z A := by
  unfold PzI
  rw [f.I h1]
  rcases hI with q | q
  · exact Or.inl q
  · exact Or.inr ⟨q.1, q.2.fr f h1 h2⟩
theorem NlOK.fr {S : Nat → Prop} {h h' : zH} {z : Nat} (f : Fr S h h') (h1 : ¬ S z) (hI : NlOK h z) : NlOK h' z := by
  unfold NlOK
  rw [f.I h1]
  exact hI
theorem PzN.I {h h' : zH} {z : Nat} {A : zA} {m : Int} (hN : PzN h h' z A m) (hm : 0 ≤ m ∧ m < 1048576) : PzI h' z A := Or.inr ⟨by rw [hN.2.2.2.1]; exact hm, by rw [hN.2.2.2.1]; exact hN.2.2.2.2.1⟩
theorem BfOK.o {h h' : zH} {o : Nat} {A : zA} {t : Nat → Nat} (h1 : gI h' (o + 12) = gI h (o + 12)) (h2 : gI h' (o + 13) = gI h (o + 13)) (h3 : gI h' (o + 14) = gI h (o + 14)) (hb : BfOK h o A t) : BfOK h' o A t := by
  unfold BfOK
  rw [h1, h2, h3]
  exact hb
/-- flags and answers stay, the puzzle is as it is now -/
theorem OcOK.pz {h h' : zH} {o : Nat} {A : zA} {m : Int} (ho : o + 15 < 109) (hO : OcOK h o A) (h3 : gI h o 3 = 1) (hN : PzN h h' (o + 6) A m) (hm : 0 ≤ m ∧ m < 1048576) : OcK h h' o A := by
  obtain ⟨⟨a1, a2, a3⟩, b1, b2, b3, b4, b5⟩ := hO
  have f := hN.1
  have eI : gI h' o = gI h o := f.I (by omega)
  have eL : gL h' o = gL h o := f.L (by omega)
  have f2 : Fr (OcS o) h h' := f.mono (fun c q => by unfold OcS; omega)
  obtain ⟨c1, c2⟩ := oc_base ho ⟨a1, a2⟩ f2 hN.2.1
  refine ⟨f2, hN.2.1, ⟨c1, c2, hN.2.2.2.2.2⟩, ?_, ?_, ?_, ?_, ?_⟩
  · refine Or.inr ⟨by rw [eI]; exact h3, ?_⟩
    rcases b1 with q | q
    · omega
    · exact ⟨by rw [eI]; exact q.2.1, hN.2.2.1, hN.I hm⟩
  · unfold fl oc5; rw [eI, eL]; exact b2
  · unfold fl oc7; rw [eI, eL]; exact b3
  · unfold fl oc9; rw [eI]; exact b4
  · unfold fl
    rw [eI]
    rcases b5 with q | ⟨q1, q2, t, q3, q4⟩
    · exact Or.inl q
    · exact Or.inr ⟨q1, q2, t, q3, q4.o (f.I (by omega)) (f.I (by omega)) (f.I (by omega))⟩
theorem OcOK.f01 {h : zH} {o : Nat} {A : zA} (hO : OcOK h o A) : (gI h o 3 = 0 ∨ gI h o 3 = 1) ∧ (gI h o 5 = 0 ∨ gI h o 5 = 1) ∧ (gI h o 7 = 0 ∨ gI h o 7 = 1) ∧ (gI h o 9 = 0 ∨ gI h o 9 = 1) ∧ (gI h o 10 = 0 ∨ gI h o 10 = 1) := by
  obtain ⟨-, b1, b2, b3, b4, b5⟩ := hO
  exact ⟨b1.imp_right And.left, b2.imp_right And.left, b3.imp_right And.left, b4.imp_right And.left, b5.imp_right And.left⟩
theorem OcOK.z {h : zH} {o : Nat} {A : zA} (hO : OcOK h o A) (h3 : gI h o 3 = 0) : gI h o 5 = 0 ∧ gI h o 7 = 0 ∧ gI h o 9 = 0 ∧ gI h o 10 = 0 := by
  obtain ⟨-, b1, b2, b3, b4, b5⟩ := hO
  have e5 : gI h o 5 = 0 := by
    rcases b2 with q | q
    · exact q
    · omega
  refine ⟨e5, ?_, ?_, ?_⟩
  · rcases b3 with q | q
    · exact q
    · omega
  · rcases b4 with q | q
    · exact q
    · omega
  · rcases b5 with q | q
    · exact q
    · omega
set_option maxHeartbeats 4000000 in
theorem sp_ocLoad (l : Launch) (G : zG) (h : zH) (o : Nat) (A : zA) (hO : OcOK h o A) (hA : AOK A) (ho : o + 15 < 109) (lv : Nat) (hlv : 5 ≤ lv) : z_Sp l G mtX1_load lv 0 0 [vR o] (h) (fun r h' => r = none ∧ OcK h h' o A ∧ gI h' o 3 = 1 ∧ (∀ k, k ≠ 2 → k ≠ 3 → gI h' o k = gI h o k) ∧ gL h' o = gL h o) := by
  have k0 := hO.1.1.1
  have r0 := hO.1.1.2.2.2.2.2.1
  have r1 := hO.1.1.2.2.2.2.2.2.1
  have hz := hO.1.1.2.2.2.2.2.2.2.2.2.2.2
  refine x_enter [vR o] (by decide +kernel) (by omega) rfl (Nat.le_of_ble_eq_true rfl) ?_
  generalize hQ : (fun (r : Option zV) (h' : zH) => r = none ∧ OcK h h' o A ∧ gI h' o 3 = 1 ∧ (∀ k, k ≠ 2 → k ≠ 3 → gI h' o k = gI h o k) ∧ gL h' o = gL h o) = QQ
  by_cases h3 : gI h o 3 = 0
  · obtain ⟨z5, z7, z9, z10⟩ := hO.z h3
    refine z_run1 tsX1_load [] 20 ?_
    simp (maxSteps := 1000000) -implicitDefEqProofs +contextual (disch := omega) only [z_wp_t, z_wp_u, ↓pI_e, ↓pL_e, ↓pO_e, ↓pR_e, ↓p1_I, ↓p1_O, z_gl, z_st1, z_st2, z_nl_I, z_nl_O, z_nl_J, z_nl_L, if_true, if_false, ite_true, ite_false, true_and, and_true, List.mem_cons, List.not_mem_nil, or_false, false_or, or_self, List.length_cons, List.length_nil, InR_t, InL_t, z_ix_t, mI_s1, mI_s2, ↓brT, ↓brF, ↓brT', ↓brF', mL_sI, mR_sI, mK_sI, mS_sI, mI_sL, mL_s1, mL_s2, mR_sL, mK_sL, mS_sL, mI_sR, mL_sR, mR_s1, mR_s2, mK_sR, mS_sR, mA_s1, mA_s2, mL_sA, mR_sA, mK_sA, mS_sA, ix_n, ix_a, ix_m, ix_s, z_sw, z_stop, forall_const, true_implies, false_implies, imp_self, implies_true, not_true_eq_false, not_false_eq_true, ne_eq, eq_self, Option.some.injEq, reduceCtorEq, Nat.reduceAdd, Nat.reduceSub, Nat.reduceMul, Nat.reduceEqDiff, Nat.reduceLT, Nat.reduceLeDiff, Int.reduceAdd, Int.reduceMul, Int.reduceSub, Int.reduceNeg, Int.reduceToNat, Int.reduceLT, Int.reduceLE, Int.reduceEq, ↓reduceIte, List.reverse_cons, Option.toList, List.cons_append, List.nil_append, vI_inj, vL_inj, vO_inj, rI, rL, rO, rV, mI_sQ, mL_sQ, mK_sQ, mS_sQ, mQ_s1, mQ_s2, iL_and, iL_or, iL_xor, iL_shl, iL_ushr, iR_and, iR_or, iR_xor, iR_shl, iR_shr, iR_ushr, iR_cmp, yc0, tlX1_load, tkX1_load, o_aload, o_getI, o_getR, o_ic, o_ifne, o_putI, o_putZ, o_vret, k0, h3, r0, r1]
    try simp +contextual (disch := omega) only [impF, impT, and_true, true_and, implies_true, not_false_eq_true, not_true_eq_false]
    refine x_callV (by decide +kernel) cv_X1_54 (sp_pzLoad l G h (o + 6) (o + 1) A hz hO.1.2.1 hA (by omega) (by omega) 4 (by omega)) hz.1 (by omega) rfl (by omega) (by omega) rfl (Nat.le_of_ble_eq_true rfl) ?_
    rintro r h1 ⟨rfl, f1, hD1, h91, hn1, hR1⟩
    have eI : gI h1 o = gI h o := f1.I (by omega)
    have eL : gL h1 o = gL h o := f1.L (by omega)
    have hS1 : StOK h1 (o + 1) A := hO.1.2.1.fr f1 (fun q hq => by omega) (fun q q1 q2 => by omega)
    have k01 : (gK h1 o).1 = 1 := by rw [f1.K]; exact k0
    have r01 : gR h1 o 0 = some (o + 1) := by rw [f1.R (by omega)]; exact r0
    refine z_run1 tsX1_load [] 20 ?_
    simp (maxSteps := 1000000) -implicitDefEqProofs +contextual (disch := omega) only [z_wp_t, z_wp_u, ↓pI_e, ↓pL_e, ↓pO_e, ↓pR_e, ↓p1_I, ↓p1_O, z_gl, z_st1, z_st2, z_nl_I, z_nl_O, z_nl_J, z_nl_L, if_true, if_false, ite_true, ite_false, true_and, and_true, List.mem_cons, List.not_mem_nil, or_false, false_or, or_self, List.length_cons, List.length_nil, InR_t, InL_t, z_ix_t, mI_s1, mI_s2, ↓brT, ↓brF, ↓brT', ↓brF', mL_sI, mR_sI, mK_sI, mS_sI, mI_sL, mL_s1, mL_s2, mR_sL, mK_sL, mS_sL, mI_sR, mL_sR, mR_s1, mR_s2, mK_sR, mS_sR, mA_s1, mA_s2, mL_sA, mR_sA, mK_sA, mS_sA, ix_n, ix_a, ix_m, ix_s, z_sw, z_stop, forall_const, true_implies, false_implies, imp_self, implies_true, not_true_eq_false, not_false_eq_true, ne_eq, eq_self, Option.some.injEq, reduceCtorEq, Nat.reduceAdd, Nat.reduceSub, Nat.reduceMul, Nat.reduceEqDiff, Nat.reduceLT, Nat.reduceLeDiff, Int.reduceAdd, Int.reduceMul, Int.reduceSub, Int.reduceNeg, Int.reduceToNat, Int.reduceLT, Int.reduceLE, Int.reduceEq, ↓reduceIte, List.reverse_cons, Option.toList, List.cons_append, List.nil_append, vI_inj, vL_inj, vO_inj, rI, rL, rO, rV, mI_sQ, mL_sQ, mK_sQ, mS_sQ, mQ_s1, mQ_s2, iL_and, iL_or, iL_xor, iL_shl, iL_ushr, iR_and, iR_or, iR_xor, iR_shl, iR_shr, iR_ushr, iR_cmp, yc0, tlX1_load, tkX1_load, o_aload, o_getI, o_getR, o_ic, o_ifne, o_putI, o_putZ, o_vret, k01, r01]
    try simp +contextual (disch := omega) only [impF, impT, and_true, true_and, implies_true, not_false_eq_true, not_true_eq_false]
    refine x_callV (by decide +kernel) cv_X1_58 (sp_activeRules l G h1 (o + 1) A hS1 hA 2 (by omega)) hS1.1.1 (by omega) rfl (by omega) (by omega) rfl (Nat.le_of_ble_eq_true rfl) ?_
    rintro r h' ⟨rfl, hE⟩
    subst h'
    refine z_run1 tsX1_load [] 20 ?_
    simp (maxSteps := 1000000) -implicitDefEqProofs +contextual (disch := omega) only [z_wp_t, z_wp_u, ↓pI_e, ↓pL_e, ↓pO_e, ↓pR_e, ↓p1_I, ↓p1_O, z_gl, z_st1, z_st2, z_nl_I, z_nl_O, z_nl_J, z_nl_L, if_true, if_false, ite_true, ite_false, true_and, and_true, List.mem_cons, List.not_mem_nil, or_false, false_or, or_self, List.length_cons, List.length_nil, InR_t, InL_t, z_ix_t, mI_s1, mI_s2, ↓brT, ↓brF, ↓brT', ↓brF', mL_sI, mR_sI, mK_sI, mS_sI, mI_sL, mL_s1, mL_s2, mR_sL, mK_sL, mS_sL, mI_sR, mL_sR, mR_s1, mR_s2, mK_sR, mS_sR, mA_s1, mA_s2, mL_sA, mR_sA, mK_sA, mS_sA, ix_n, ix_a, ix_m, ix_s, z_sw, z_stop, forall_const, true_implies, false_implies, imp_self, implies_true, not_true_eq_false, not_false_eq_true, ne_eq, eq_self, Option.some.injEq, reduceCtorEq, Nat.reduceAdd, Nat.reduceSub, Nat.reduceMul, Nat.reduceEqDiff, Nat.reduceLT, Nat.reduceLeDiff, Int.reduceAdd, Int.reduceMul, Int.reduceSub, Int.reduceNeg, Int.reduceToNat, Int.reduceLT, Int.reduceLE, Int.reduceEq, ↓reduceIte, List.reverse_cons, Option.toList, List.cons_append, List.nil_append, vI_inj, vL_inj, vO_inj, rI, rL, rO, rV, mI_sQ, mL_sQ, mK_sQ, mS_sQ, mQ_s1, mQ_s2, iL_and, iL_or, iL_xor, iL_shl, iL_ushr, iR_and, iR_or, iR_xor, iR_shl, iR_shr, iR_ushr, iR_cmp, yc0, tlX1_load, tkX1_load, o_aload, o_getI, o_getR, o_ic, o_ifne, o_putI, o_putZ, o_vret, k01]
    try simp +contextual (disch := omega) only [impF, impT, and_true, true_and, implies_true, not_false_eq_true, not_true_eq_false]
    rw [← hQ]
    have f2 : Fr (fun c => c = o) h1 (sI (sI h1 o 2 (actM A (aC A))) o 3 1) := (Fr_I1 _ _ _ _).tr' (Fr_I1 _ _ _ _) (fun _ q => q) (fun _ q => q)
    have e2 : gI (sI (sI h1 o 2 (actM A (aC A))) o 3 1) o 2 = actM A (aC A) := by rw [mI_s2 _ _ (Or.inr (by omega)), mI_s1]
    have e3 : gI (sI (sI h1 o 2 (actM A (aC A))) o 3 1) o 3 = 1 := mI_s1 _ _ _ _
    have ek : ∀ k, k ≠ 2 → k ≠ 3 → gI (sI (sI h1 o 2 (actM A (aC A))) o 3 1) o k = gI h o k := fun k q1 q2 => by rw [mI_s2 _ _ (Or.inr q2), mI_s2 _ _ (Or.inr q1), eI]
    have eL2 : gL (sI (sI h1 o 2 (actM A (aC A))) o 3 1) o = gL h o := by rw [mL_sI, mL_sI]; exact eL
    have eR2 : gR (sI (sI h1 o 2 (actM A (aC A))) o 3 1) = gR h := by rw [mR_sI, mR_sI]; exact hR1
    generalize sI (sI h1 o 2 (actM A (aC A))) o 3 1 = h2 at *
    have f3 : Fr (OcS o) h h2 := f1.tr' f2 (fun c q => by unfold OcS; omega) (fun c q => by unfold OcS; omega)
    obtain ⟨c1, c2⟩ := oc_base ho ⟨hO.1.1, hO.1.2.1⟩ f3 eR2
    have hnl : NlOK h2 (o + 6) := by
      refine NlOK.fr f2 (by omega) ?_
      unfold NlOK
      rw [hn1]
      exact hO.1.2.2
    refine ⟨rfl, ⟨f3, eR2, ⟨c1, c2, hnl⟩, Or.inr ⟨e3, e2, hD1.fr f2 (fun c q1 q2 => by omega), Or.inl (by rw [f2.I (by omega)]; exact h91)⟩, Or.inl (by rw [ek 5 (by omega) (by omega)]; exact z5), Or.inl (by rw [ek 7 (by omega) (by omega)]; exact z7), Or.inl (by rw [ek 9 (by omega) (by omega)]; exact z9), Or.inl (by rw [ek 10 (by omega) (by omega)]; exact z10)⟩, e3, ek, eL2⟩
  · have h31 : gI h o 3 = 1 := by have := hO.f01.1; omega
    refine z_run1 tsX1_load [] 20 ?_
    simp (maxSteps := 1000000) -implicitDefEqProofs +contextual (disch := omega) only [z_wp_t, z_wp_u, ↓pI_e, ↓pL_e, ↓pO_e, ↓pR_e, ↓p1_I, ↓p1_O, z_gl, z_st1, z_st2, z_nl_I, z_nl_O, z_nl_J, z_nl_L, if_true, if_false, ite_true, ite_false, true_and, and_true, List.mem_cons, List.not_mem_nil, or_false, false_or, or_self, List.length_cons, List.length_nil, InR_t, InL_t, z_ix_t, mI_s1, mI_s2, ↓brT, ↓brF, ↓brT', ↓brF', mL_sI, mR_sI, mK_sI, mS_sI, mI_sL, mL_s1, mL_s2, mR_sL, mK_sL, mS_sL, mI_sR, mL_sR, mR_s1, mR_s2, mK_sR, mS_sR, mA_s1, mA_s2, mL_sA, mR_sA, mK_sA, mS_sA, ix_n, ix_a, ix_m, ix_s, z_sw, z_stop, forall_const, true_implies, false_implies, imp_self, implies_true, not_true_eq_false, not_false_eq_true, ne_eq, eq_self, Option.some.injEq, reduceCtorEq, Nat.reduceAdd, Nat.reduceSub, Nat.reduceMul, Nat.reduceEqDiff, Nat.reduceLT, Nat.reduceLeDiff, Int.reduceAdd, Int.reduceMul, Int.reduceSub, Int.reduceNeg, Int.reduceToNat, Int.reduceLT, Int.reduceLE, Int.reduceEq, ↓reduceIte, List.reverse_cons, Option.toList, List.cons_append, List.nil_append, vI_inj, vL_inj, vO_inj, rI, rL, rO, rV, mI_sQ, mL_sQ, mK_sQ, mS_sQ, mQ_s1, mQ_s2, iL_and, iL_or, iL_xor, iL_shl, iL_ushr, iR_and, iR_or, iR_xor, iR_shl, iR_shr, iR_ushr, iR_cmp, yc0, tlX1_load, tkX1_load, o_aload, o_getI, o_getR, o_ic, o_ifne, o_putI, o_putZ, o_vret, k0, h31]
    try simp +contextual (disch := omega) only [impF, impT, and_true, true_and, implies_true, not_false_eq_true, not_true_eq_false]
    rw [← hQ]
    exact ⟨rfl, OcK.rf hO, h31, fun _ _ _ => rfl, rfl⟩
theorem OcOK.act {h : zH} {o : Nat} {A : zA} (hO : OcOK h o A) (h3 : gI h o 3 = 1) : oc3 h o A := by
  rcases hO.2.1 with q | q
  · omega
  · exact q.2
theorem OcOK.best {h : zH} {o : Nat} {A : zA} (hO : OcOK h o A) (h5 : gI h o 5 = 1) : oc5 h o A ∧ gI h o 3 = 1 := by
  rcases hO.2.2.1 with q | q
  · omega
  · exact ⟨q.2.2, q.2.1⟩
theorem encO_ne {A : zA} {y : Int} (hA : AOK A) (h : encO y (bestA A)) : (if (bestA A).isSome then (1 : Int) else 0) = if y = 0 then 0 else 1 := by
  cases hb : bestA A with
  | none => rw [hb] at h; simp [show y = 0 from h]
  | some t =>
    rw [hb] at h
    have := Enc_ne h (sol_4 (bstL_mem hb).1)
    simp [this]
set_option maxHeartbeats 4000000 in
theorem sp_hasSolution (l : Launch) (G : zG) (h : zH) (o : Nat) (A : zA) (hO : OcOK h o A) (hA : AOK A) (ho : o + 15 < 109) (lv : Nat) (hlv : 13 ≤ lv) : z_Sp l G mtX1_hasSolution lv 0 0 [vR o] (h) (fun r h' => r = some (vI (if (bestA A).isSome then 1 else 0)) ∧ OcK h h' o A ∧ gI h' o 5 = 1) := by
  have k0 := hO.1.1.1
  refine x_enter [vR o] (by decide +kernel) (by omega) rfl (Nat.le_of_ble_eq_true rfl) ?_
  generalize hQ : (fun (r : Option zV) (h' : zH) => r = some (vI (if (bestA A).isSome then 1 else 0)) ∧ OcK h h' o A ∧ gI h' o 5 = 1) = QQ
  refine z_run1 tsX1_hasSolution [] 20 ?_
  simp (maxSteps := 1000000) -implicitDefEqProofs +contextual (disch := omega) only [z_wp_t, z_wp_u, ↓pI_e, ↓pL_e, ↓pO_e, ↓pR_e, ↓p1_I, ↓p1_O, z_gl, z_st1, z_st2, z_nl_I, z_nl_O, z_nl_J, z_nl_L, if_true, if_false, ite_true, ite_false, true_and, and_true, List.mem_cons, List.not_mem_nil, or_false, false_or, or_self, List.length_cons, List.length_nil, InR_t, InL_t, z_ix_t, mI_s1, mI_s2, ↓brT, ↓brF, ↓brT', ↓brF', mL_sI, mR_sI, mK_sI, mS_sI, mI_sL, mL_s1, mL_s2, mR_sL, mK_sL, mS_sL, mI_sR, mL_sR, mR_s1, mR_s2, mK_sR, mS_sR, mA_s1, mA_s2, mL_sA, mR_sA, mK_sA, mS_sA, ix_n, ix_a, ix_m, ix_s, z_sw, z_stop, forall_const, true_implies, false_implies, imp_self, implies_true, not_true_eq_false, not_false_eq_true, ne_eq, eq_self, Option.some.injEq, reduceCtorEq, Nat.reduceAdd, Nat.reduceSub, Nat.reduceMul, Nat.reduceEqDiff, Nat.reduceLT, Nat.reduceLeDiff, Int.reduceAdd, Int.reduceMul, Int.reduceSub, Int.reduceNeg, Int.reduceToNat, Int.reduceLT, Int.reduceLE, Int.reduceEq, ↓reduceIte, List.reverse_cons, Option.toList, List.cons_append, List.nil_append, vI_inj, vL_inj, vO_inj, rI, rL, rO, rV, mI_sQ, mL_sQ, mK_sQ, mS_sQ, mQ_s1, mQ_s2, iL_and, iL_or, iL_xor, iL_shl, iL_ushr, iR_and, iR_or, iR_xor, iR_shl, iR_shr, iR_ushr, iR_cmp, yc0, tlX1_hasSolution, tkX1_hasSolution, o_aload, o_getI, o_getL, o_getR, o_goto, o_ic, o_ifeq, o_ifne, o_lc, o_lcmp, o_putL, o_putZ, o_zret]
  try simp +contextual (disch := omega) only [impF, impT, and_true, true_and, implies_true, not_false_eq_true, not_true_eq_false]
  refine x_callV (by decide +kernel) cv_X1_66 (sp_ocLoad l G h o A hO hA ho 5 (by omega)) k0 (by omega) rfl (by omega) (by omega) rfl (Nat.le_of_ble_eq_true rfl) ?_
  rintro r h1 ⟨rfl, hK1, h31, ek, eL⟩
  have hO1 := hK1.2.2
  have k1 := hO1.1.1.1
  have fin : ∀ (h2 : zH), OcK h1 h2 o A → gI h2 o 5 = 1 → z_X l G mtX1_hasSolution lv 0 0 (QQ) 0 0 (h2) 31 [vR o] [] := by
    intro h2 hK2 h52
    have k2 := hK2.2.2.1.1.1
    obtain ⟨⟨b1, b2⟩, -⟩ := hK2.2.2.best h52
    have hne := encO_ne hA b2
    by_cases hy : gL h2 o 4 = 0
    · rw [if_pos hy] at hne
      refine z_run1 tsX1_hasSolution [] 20 ?_
      simp (maxSteps := 1000000) -implicitDefEqProofs +contextual (disch := omega) only [z_wp_t, z_wp_u, ↓pI_e, ↓pL_e, ↓pO_e, ↓pR_e, ↓p1_I, ↓p1_O, z_gl, z_st1, z_st2, z_nl_I, z_nl_O, z_nl_J, z_nl_L, if_true, if_false, ite_true, ite_false, true_and, and_true, List.mem_cons, List.not_mem_nil, or_false, false_or, or_self, List.length_cons, List.length_nil, InR_t, InL_t, z_ix_t, mI_s1, mI_s2, ↓brT, ↓brF, ↓brT', ↓brF', mL_sI, mR_sI, mK_sI, mS_sI, mI_sL, mL_s1, mL_s2, mR_sL, mK_sL, mS_sL, mI_sR, mL_sR, mR_s1, mR_s2, mK_sR, mS_sR, mA_s1, mA_s2, mL_sA, mR_sA, mK_sA, mS_sA, ix_n, ix_a, ix_m, ix_s, z_sw, z_stop, forall_const, true_implies, false_implies, imp_self, implies_true, not_true_eq_false, not_false_eq_true, ne_eq, eq_self, Option.some.injEq, reduceCtorEq, Nat.reduceAdd, Nat.reduceSub, Nat.reduceMul, Nat.reduceEqDiff, Nat.reduceLT, Nat.reduceLeDiff, Int.reduceAdd, Int.reduceMul, Int.reduceSub, Int.reduceNeg, Int.reduceToNat, Int.reduceLT, Int.reduceLE, Int.reduceEq, ↓reduceIte, List.reverse_cons, Option.toList, List.cons_append, List.nil_append, vI_inj, vL_inj, vO_inj, rI, rL, rO, rV, mI_sQ, mL_sQ, mK_sQ, mS_sQ, mQ_s1, mQ_s2, iL_and, iL_or, iL_xor, iL_shl, iL_ushr, iR_and, iR_or, iR_xor, iR_shl, iR_shr, iR_ushr, iR_cmp, yc0, tlX1_hasSolution, tkX1_hasSolution, o_aload, o_getI, o_getL, o_getR, o_goto, o_ic, o_ifeq, o_ifne, o_lc, o_lcmp, o_putL, o_putZ, o_zret, k2, hy]
      try simp +contextual (disch := omega) only [impF, impT, and_true, true_and, implies_true, not_false_eq_true, not_true_eq_false]
      rw [← hQ, hne]
      exact ⟨rfl, hK1.tr hK2, h52⟩
    · rw [if_neg hy] at hne
      refine z_run1 tsX1_hasSolution [] 20 ?_
      simp (maxSteps := 1000000) -implicitDefEqProofs +contextual (disch := omega) only [z_wp_t, z_wp_u, ↓pI_e, ↓pL_e, ↓pO_e, ↓pR_e, ↓p1_I, ↓p1_O, z_gl, z_st1, z_st2, z_nl_I, z_nl_O, z_nl_J, z_nl_L, if_true, if_false, ite_true, ite_false, true_and, and_true, List.mem_cons, List.not_mem_nil, or_false, false_or, or_self, List.length_cons, List.length_nil, InR_t, InL_t, z_ix_t, mI_s1, mI_s2, ↓brT, ↓brF, ↓brT', ↓brF', mL_sI, mR_sI, mK_sI, mS_sI, mI_sL, mL_s1, mL_s2, mR_sL, mK_sL, mS_sL, mI_sR, mL_sR, mR_s1, mR_s2, mK_sR, mS_sR, mA_s1, mA_s2, mL_sA, mR_sA, mK_sA, mS_sA, ix_n, ix_a, ix_m, ix_s, z_sw, z_stop, forall_const, true_implies, false_implies, imp_self, implies_true, not_true_eq_false, not_false_eq_true, ne_eq, eq_self, Option.some.injEq, reduceCtorEq, Nat.reduceAdd, Nat.reduceSub, Nat.reduceMul, Nat.reduceEqDiff, Nat.reduceLT, Nat.reduceLeDiff, Int.reduceAdd, Int.reduceMul, Int.reduceSub, Int.reduceNeg, Int.reduceToNat, Int.reduceLT, Int.reduceLE, Int.reduceEq, ↓reduceIte, List.reverse_cons, Option.toList, List.cons_append, List.nil_append, vI_inj, vL_inj, vO_inj, rI, rL, rO, rV, mI_sQ, mL_sQ, mK_sQ, mS_sQ, mQ_s1, mQ_s2, iL_and, iL_or, iL_xor, iL_shl, iL_ushr, iR_and, iR_or, iR_xor, iR_shl, iR_shr, iR_ushr, iR_cmp, yc0, tlX1_hasSolution, tkX1_hasSolution, o_aload, o_getI, o_getL, o_getR, o_goto, o_ic, o_ifeq, o_ifne, o_lc, o_lcmp, o_putL, o_putZ, o_zret, k2, hy, b1]
      try simp +contextual (disch := omega) only [impF, impT, and_true, true_and, implies_true, not_false_eq_true, not_true_eq_false]
      rw [← hQ, hne]
      exact ⟨rfl, hK1.tr hK2, h52⟩
  by_cases h5 : gI h1 o 5 = 0
  · obtain ⟨d1, d2, d3⟩ := hO1.act h31
    have r1 := hO1.1.1.2.2.2.2.2.2.1
    have hz := hO1.1.1.2.2.2.2.2.2.2.2.2.2.2
    have hmb : ∀ r, tb (actM A (aC A)) r = true → r < aC A := by rw [tb_act hA]; exact act_lt
    refine z_run1 tsX1_hasSolution [] 20 ?_
    simp (maxSteps := 1000000) -implicitDefEqProofs +contextual (disch := omega) only [z_wp_t, z_wp_u, ↓pI_e, ↓pL_e, ↓pO_e, ↓pR_e, ↓p1_I, ↓p1_O, z_gl, z_st1, z_st2, z_nl_I, z_nl_O, z_nl_J, z_nl_L, if_true, if_false, ite_true, ite_false, true_and, and_true, List.mem_cons, List.not_mem_nil, or_false, false_or, or_self, List.length_cons, List.length_nil, InR_t, InL_t, z_ix_t, mI_s1, mI_s2, ↓brT, ↓brF, ↓brT', ↓brF', mL_sI, mR_sI, mK_sI, mS_sI, mI_sL, mL_s1, mL_s2, mR_sL, mK_sL, mS_sL, mI_sR, mL_sR, mR_s1, mR_s2, mK_sR, mS_sR, mA_s1, mA_s2, mL_sA, mR_sA, mK_sA, mS_sA, ix_n, ix_a, ix_m, ix_s, z_sw, z_stop, forall_const, true_implies, false_implies, imp_self, implies_true, not_true_eq_false, not_false_eq_true, ne_eq, eq_self, Option.some.injEq, reduceCtorEq, Nat.reduceAdd, Nat.reduceSub, Nat.reduceMul, Nat.reduceEqDiff, Nat.reduceLT, Nat.reduceLeDiff, Int.reduceAdd, Int.reduceMul, Int.reduceSub, Int.reduceNeg, Int.reduceToNat, Int.reduceLT, Int.reduceLE, Int.reduceEq, ↓reduceIte, List.reverse_cons, Option.toList, List.cons_append, List.nil_append, vI_inj, vL_inj, vO_inj, rI, rL, rO, rV, mI_sQ, mL_sQ, mK_sQ, mS_sQ, mQ_s1, mQ_s2, iL_and, iL_or, iL_xor, iL_shl, iL_ushr, iR_and, iR_or, iR_xor, iR_shl, iR_shr, iR_ushr, iR_cmp, yc0, tlX1_hasSolution, tkX1_hasSolution, o_aload, o_getI, o_getL, o_getR, o_goto, o_ic, o_ifeq, o_ifne, o_lc, o_lcmp, o_putL, o_putZ, o_zret, k1, h5, r1, d1]
    try simp +contextual (disch := omega) only [impF, impT, and_true, true_and, implies_true, not_false_eq_true, not_true_eq_false]
    refine x_callV (by decide +kernel) cv_X1_68 (sp_best l G h1 (o + 6) (actM A (aC A)) A hz d2 hA (act_R hA) hmb d3 hO1.1.2.2 12 (by omega)) hz.1 (by omega) rfl (by omega) (by omega) rfl (Nat.le_of_ble_eq_true rfl) ?_
    rintro r h2 ⟨y, rfl, hyL, hN, hen⟩
    rw [tb_act hA] at hen
    have hK2 := hO1.pz ho h31 hN (act_R hA)
    have eI : gI h2 o = gI h1 o := hN.1.I (by omega)
    have k2 := hK2.2.2.1.1.1
    have f3 : Fr (fun c => c = o) h2 (sI (sL h2 o 4 y) o 5 1) := (Fr_L1 _ _ _ _).tr' (Fr_I1 _ _ _ _) (fun _ q => q) (fun _ q => q)
    have z10 : gI h1 o 10 = 0 := by
      rcases hO1.2.2.2.2.2 with q | q
      · exact q
      · omega
    have e4 : gL (sI (sL h2 o 4 y) o 5 1) o 4 = y := by rw [mL_sI, mL_s1]
    have e6 : gL (sI (sL h2 o 4 y) o 5 1) o 6 = gL h2 o 6 := by rw [mL_sI, mL_s2 _ _ (Or.inr (by omega))]
    have e5 : gI (sI (sL h2 o 4 y) o 5 1) o 5 = 1 := mI_s1 _ _ _ _
    have ei : ∀ k, k ≠ 5 → gI (sI (sL h2 o 4 y) o 5 1) o k = gI h2 o k := fun k hk => by rw [mI_s2 _ _ (Or.inr hk), mI_sL]
    have eR : gR (sI (sL h2 o 4 y) o 5 1) = gR h2 := rfl
    have hrun : z_X l G mtX1_hasSolution lv 0 0 QQ 0 0 (sI (sL h2 o 4 y) o 5 1) 31 [vR o] [] := by
      generalize sI (sL h2 o 4 y) o 5 1 = h3 at *
      have f4 : Fr (OcS o) h2 h3 := f3.mono (fun c q => by unfold OcS; omega)
      obtain ⟨⟨a1, a2, a3⟩, b1, b2, b3, b4, b5⟩ := hK2.2.2
      obtain ⟨c1, c2⟩ := oc_base ho ⟨a1, a2⟩ f4 eR
      refine fin h3 (hK2.tr ⟨f4, eR, ⟨c1, c2, a3.fr f3 (by omega)⟩, ?_, ?_, ?_, ?_, ?_⟩) e5
      · unfold fl oc3
        rw [ei 3 (by omega), ei 2 (by omega)]
        rcases b1 with q | q
        · exact Or.inl q
        · exact Or.inr ⟨q.1, q.2.1, q.2.2.1.fr f3 (fun c q1 q2 => by omega), q.2.2.2.fr f3 (by omega) (by omega)⟩
      · refine Or.inr ⟨e5, by rw [ei 3 (by omega), eI]; exact h31, ?_⟩
        unfold oc5
        rw [e4]
        exact ⟨hyL, hen⟩
      · unfold fl oc7
        rw [ei 7 (by omega), ei 3 (by omega), e6]
        exact b3
      · unfold fl oc9
        rw [ei 9 (by omega), ei 3 (by omega), ei 8 (by omega)]
        exact b4
      · exact Or.inl (by rw [ei 10 (by omega), eI]; exact z10)
    refine z_run1 tsX1_hasSolution [31] 20 ?_
    simp (maxSteps := 1000000) -implicitDefEqProofs +contextual (disch := omega) only [z_wp_t, z_wp_u, ↓pI_e, ↓pL_e, ↓pO_e, ↓pR_e, ↓p1_I, ↓p1_O, z_gl, z_st1, z_st2, z_nl_I, z_nl_O, z_nl_J, z_nl_L, if_true, if_false, ite_true, ite_false, true_and, and_true, List.mem_cons, List.not_mem_nil, or_false, false_or, or_self, List.length_cons, List.length_nil, InR_t, InL_t, z_ix_t, mI_s1, mI_s2, ↓brT, ↓brF, ↓brT', ↓brF', mL_sI, mR_sI, mK_sI, mS_sI, mI_sL, mL_s1, mL_s2, mR_sL, mK_sL, mS_sL, mI_sR, mL_sR, mR_s1, mR_s2, mK_sR, mS_sR, mA_s1, mA_s2, mL_sA, mR_sA, mK_sA, mS_sA, ix_n, ix_a, ix_m, ix_s, z_sw, z_stop, forall_const, true_implies, false_implies, imp_self, implies_true, not_true_eq_false, not_false_eq_true, ne_eq, eq_self, Option.some.injEq, reduceCtorEq, Nat.reduceAdd, Nat.reduceSub, Nat.reduceMul, Nat.reduceEqDiff, Nat.reduceLT, Nat.reduceLeDiff, Int.reduceAdd, Int.reduceMul, Int.reduceSub, Int.reduceNeg, Int.reduceToNat, Int.reduceLT, Int.reduceLE, Int.reduceEq, ↓reduceIte, List.reverse_cons, Option.toList, List.cons_append, List.nil_append, vI_inj, vL_inj, vO_inj, rI, rL, rO, rV, mI_sQ, mL_sQ, mK_sQ, mS_sQ, mQ_s1, mQ_s2, iL_and, iL_or, iL_xor, iL_shl, iL_ushr, iR_and, iR_or, iR_xor, iR_shl, iR_shr, iR_ushr, iR_cmp, yc0, tlX1_hasSolution, tkX1_hasSolution, o_aload, o_getI, o_getL, o_getR, o_goto, o_ic, o_ifeq, o_ifne, o_lc, o_lcmp, o_putL, o_putZ, o_zret, k2]
    try simp +contextual (disch := omega) only [impF, impT, and_true, true_and, implies_true, not_false_eq_true, not_true_eq_false]
    exact hrun
  · have h51 : gI h1 o 5 = 1 := by have := hO1.f01.2.1; omega
    have hf := fin h1 (OcK.rf hO1) h51
    refine z_run1 tsX1_hasSolution [31] 20 ?_
    simp (maxSteps := 1000000) -implicitDefEqProofs +contextual (disch := omega) only [z_wp_t, z_wp_u, ↓pI_e, ↓pL_e, ↓pO_e, ↓pR_e, ↓p1_I, ↓p1_O, z_gl, z_st1, z_st2, z_nl_I, z_nl_O, z_nl_J, z_nl_L, if_true, if_false, ite_true, ite_false, true_and, and_true, List.mem_cons, List.not_mem_nil, or_false, false_or, or_self, List.length_cons, List.length_nil, InR_t, InL_t, z_ix_t, mI_s1, mI_s2, ↓brT, ↓brF, ↓brT', ↓brF', mL_sI, mR_sI, mK_sI, mS_sI, mI_sL, mL_s1, mL_s2, mR_sL, mK_sL, mS_sL, mI_sR, mL_sR, mR_s1, mR_s2, mK_sR, mS_sR, mA_s1, mA_s2, mL_sA, mR_sA, mK_sA, mS_sA, ix_n, ix_a, ix_m, ix_s, z_sw, z_stop, forall_const, true_implies, false_implies, imp_self, implies_true, not_true_eq_false, not_false_eq_true, ne_eq, eq_self, Option.some.injEq, reduceCtorEq, Nat.reduceAdd, Nat.reduceSub, Nat.reduceMul, Nat.reduceEqDiff, Nat.reduceLT, Nat.reduceLeDiff, Int.reduceAdd, Int.reduceMul, Int.reduceSub, Int.reduceNeg, Int.reduceToNat, Int.reduceLT, Int.reduceLE, Int.reduceEq, ↓reduceIte, List.reverse_cons, Option.toList, List.cons_append, List.nil_append, vI_inj, vL_inj, vO_inj, rI, rL, rO, rV, mI_sQ, mL_sQ, mK_sQ, mS_sQ, mQ_s1, mQ_s2, iL_and, iL_or, iL_xor, iL_shl, iL_ushr, iR_and, iR_or, iR_xor, iR_shl, iR_shr, iR_ushr, iR_cmp, yc0, tlX1_hasSolution, tkX1_hasSolution, o_aload, o_getI, o_getL, o_getR, o_goto, o_ic, o_ifeq, o_ifne, o_lc, o_lcmp, o_putL, o_putZ, o_zret, k1, h51]
    try simp +contextual (disch := omega) only [impF, impT, and_true, true_and, implies_true, not_false_eq_true, not_true_eq_false]
    exact hf
