/-! the abstract state, and what an object of State holds of it -/
abbrev zRu : Type := (Int × Int × Int × Int) × (Int → Bool) × (Int → Bool)
def rF (R : zRu) : Int := R.1.1
def rC (R : zRu) : Int := R.1.2.1
def rB (R : zRu) : Int := R.1.2.2.1
def rT (R : zRu) : Int := R.1.2.2.2
def rCi (R : zRu) : Int → Bool := R.2.1
def rTi (R : zRu) : Int → Bool := R.2.2
abbrev zA : Type := ((Nat → Nat) × (Nat → Nat → Int) × (Nat → Int)) × (Nat × Int) × (Nat → zRu)
def aN (A : zA) : Nat → Nat := A.1.1
def aV (A : zA) : Nat → Nat → Int := A.1.2.1
def aL (A : zA) : Nat → Int := A.1.2.2
def aC (A : zA) : Nat := A.2.1.1
def aF (A : zA) : Int := A.2.1.2
def aR (A : zA) : Nat → zRu := A.2.2
def RuA (R : zRu) : Prop := (0 ≤ rF R ∧ rF R ≤ 4) ∧ (-1 ≤ rC R ∧ rC R ≤ 7) ∧ (rB R = 0 ∨ rB R = 1) ∧ (0 ≤ rT R ∧ rT R ≤ 7)
/-- the abstract state is a legal one -/
def AOK (A : zA) : Prop := (∀ p, p < 8 → aN A p ≤ 4) ∧ (∀ p i, p < 8 → i < aN A p → 0 ≤ aV A p i ∧ aV A p i ≤ 999) ∧ (∀ p i, p < 8 → i + 1 < aN A p → aV A p i < aV A p (i + 1)) ∧ (∀ p, p < 8 → -1 ≤ aL A p ∧ aL A p ≤ 999) ∧ aC A ≤ 20 ∧ (0 ≤ aF A ∧ aF A ≤ 31) ∧ ∀ r, r < aC A → RuA (aR A r)
def InV (z : Int) : Prop := -1 ≤ z ∧ z ≤ 1000
def RgS (h : zH) (q N : Nat) : Prop := (gK h q).1 = 3 ∧ gK h (q + 1) = (9, N) ∧ gK h (q + 2) = (9, N) ∧ gR h q 0 = some (q + 1) ∧ gR h q 1 = some (q + 2) ∧ N ≤ 20
/-- a range with n parts -/
def RgP (h : zH) (q N n : Nat) : Prop := RgS h q N ∧ gI h q 2 = (n : Int) ∧ n ≤ N ∧ ∀ i, i < n → InV (gI h (q + 1) i) ∧ InV (gI h (q + 2) i)
def RgF (h : zH) (q n : Nat) (f : Int → Bool) : Prop := ∀ v, 0 ≤ v → v ≤ 999 → (f v = true ↔ ∃ i, i < n ∧ gI h (q + 1) i ≤ v ∧ v ≤ gI h (q + 2) i)
def RgOK (h : zH) (q N : Nat) (f : Int → Bool) : Prop := ∃ n, RgP h q N n ∧ RgF h q n f
def RuOK (h : zH) (q : Nat) (R : zRu) : Prop := 109 ≤ q ∧ (gK h q).1 = 4 ∧ gI h q 0 = rF R ∧ gI h q 1 = rC R ∧ gR h q 2 = some (q + 1) ∧ gI h q 3 = rB R ∧ gI h q 4 = rT R ∧ gR h q 5 = some (q + 4) ∧ (∃ N, RgOK h (q + 1) N (rCi R)) ∧ ∃ N, RgOK h (q + 4) N (rTi R)
def ShS (h : zH) (a : Nat) : Prop := (gK h a).1 = 6 ∧ gK h (a + 1) = (9, 32) ∧ gK h (a + 2) = (9, 8) ∧ gK h (a + 3) = (9, 8) ∧ gK h (a + 4) = (12, 20) ∧ gR h a 0 = some (a + 1) ∧ gR h a 1 = some (a + 2) ∧ gR h a 2 = some (a + 3) ∧ gR h a 3 = some (a + 4) ∧ ∀ r q, gR h (a + 4) r = some q → (gK h q).1 = 4
def StOK (h : zH) (a : Nat) (A : zA) : Prop := ShS h a ∧ (∀ p, p < 8 → gI h (a + 2) p = (aN A p : Int)) ∧ (∀ p i, p < 8 → i < aN A p → gI h (a + 1) (p * 4 + i) = aV A p i) ∧ (∀ p, p < 8 → gI h (a + 3) p = aL A p) ∧ gI h a 4 = (aC A : Int) ∧ gI h a 5 = aF A ∧ ∀ r, r < aC A → ∃ q, gR h (a + 4) r = some q ∧ RuOK h q (aR A r)
theorem RgOK.fr {S : Nat → Prop} {h h' : zH} (f : Fr S h h') {q N : Nat} {g : Int → Bool} (hs : ¬ S q ∧ ¬ S (q + 1) ∧ ¬ S (q + 2)) (hr : RgOK h q N g) : RgOK h' q N g := by
  unfold RgOK RgP RgF RgS at *
  rw [f.K, f.I hs.1, f.I hs.2.1, f.I hs.2.2, f.R hs.1]
  exact hr
theorem RuOK.fr {S : Nat → Prop} {h h' : zH} (f : Fr S h h') (hs : ∀ q, 109 ≤ q → ¬ S q) {q : Nat} {R : zRu} (hr : RuOK h q R) : RuOK h' q R := by
  obtain ⟨h0, h1, h2, h3, h4, h5, h6, h7, ⟨N, h8⟩, M, h9⟩ := hr
  have e := hs q h0
  exact ⟨h0, by rw [f.K]; exact h1, by rw [f.I e]; exact h2, by rw [f.I e]; exact h3, by rw [f.R e]; exact h4, by rw [f.I e]; exact h5, by rw [f.I e]; exact h6, by rw [f.R e]; exact h7, ⟨N, h8.fr f ⟨hs _ (by omega), hs _ (by omega), hs _ (by omega)⟩⟩, M, h9.fr f ⟨hs _ (by omega), hs _ (by omega), hs _ (by omega)⟩⟩
theorem ShS.fr {S : Nat → Prop} {h h' : zH} (f : Fr S h h') {a : Nat} (hs : ¬ S a ∧ ¬ S (a + 4)) (hr : ShS h a) : ShS h' a := by
  unfold ShS at *
  rw [f.K, f.R hs.1, f.R hs.2]
  exact hr
theorem StOK.fr {S : Nat → Prop} {h h' : zH} (f : Fr S h h') (hs : ∀ q, 109 ≤ q → ¬ S q) {a : Nat} {A : zA} (ha : ∀ q, a ≤ q → q ≤ a + 4 → ¬ S q) (hr : StOK h a A) : StOK h' a A := by
  obtain ⟨h1, h2, h3, h4, h5, h6, h7⟩ := hr
  have e0 := ha a (by omega) (by omega)
  have e1 := ha (a + 1) (by omega) (by omega)
  have e2 := ha (a + 2) (by omega) (by omega)
  have e3 := ha (a + 3) (by omega) (by omega)
  have e4 := ha (a + 4) (by omega) (by omega)
  refine ⟨h1.fr f ⟨e0, e4⟩, by rw [f.I e2]; exact h2, by rw [f.I e1]; exact h3, by rw [f.I e3]; exact h4, by rw [f.I e0]; exact h5, by rw [f.I e0]; exact h6, ?_⟩
  rw [f.R e4]
  intro r hr
  obtain ⟨q, g1, g2⟩ := h7 r hr
  exact ⟨q, g1, g2.fr f hs⟩
/-! Range, Rule -/
set_option maxHeartbeats 4000000 in
theorem sp_Rg_has (l : Launch) (G : zG) (h : zH) (q N : Nat) (v : Int) (f : Int → Bool) (hR : RgOK h q N f) (hv : 0 ≤ v ∧ v ≤ 999) (lv : Nat) (hlv : 2 ≤ lv) : z_Sp l G mtX3_has lv 0 0 [vR q, vI v] h (rI (if f v then 1 else 0) h) := by
  obtain ⟨n, ⟨⟨k0, k1, k2, r0, r1, hN⟩, hn, hnN, hb⟩, hf⟩ := hR
  refine x_enter [vR q, vI v, vJ] (by decide +kernel) (by omega) rfl (Nat.le_of_ble_eq_true rfl) ?_
  refine z_run1 tsX3_has [2] 30 ?_
  simp +contextual (disch := omega) only [z_wp_s, z_wp_0, pI_e, pL_e, pO_e, pR_e, p1_I, p1_O, z_gl, z_st1, z_st2, z_nl_I, z_nl_O, z_nl_J, z_nl_L, if_true, if_false, ite_true, ite_false, true_and, and_true, List.mem_cons, List.not_mem_nil, or_false, false_or, or_self, List.length_cons, List.length_nil, InR_t, InL_t, z_ix_t, mI_s1, mI_s2, ↓brT, ↓brF, ↓brT', ↓brF', mL_sI, mR_sI, mK_sI, mS_sI, mI_sL, mL_s1, mL_s2, mR_sL, mK_sL, mS_sL, mI_sR, mL_sR, mR_s1, mR_s2, mK_sR, mS_sR, mA_s1, mA_s2, mL_sA, mR_sA, mK_sA, mS_sA, ix_n, ix_a, ix_m, ix_s, z_sw, z_stop, forall_const, true_implies, false_implies, imp_self, implies_true, not_true_eq_false, not_false_eq_true, ne_eq, eq_self, Option.some.injEq, reduceCtorEq, Nat.reduceAdd, Nat.reduceSub, Nat.reduceMul, Nat.reduceEqDiff, Nat.reduceLT, Nat.reduceLeDiff, Int.reduceAdd, Int.reduceMul, Int.reduceSub, Int.reduceNeg, Int.reduceToNat, Int.reduceLT, Int.reduceLE, Int.reduceEq, ↓reduceIte, List.reverse_cons, Option.toList, List.cons_append, List.nil_append, vI_inj, vL_inj, vO_inj, rI, rL, rO, rV, tlX3_has, o_aload, o_getI, o_getR, o_goto, o_iald, o_ic, o_icge, o_icgt, o_iinc, o_iload, o_istore, o_zret]
  have hl : ∀ d i : Nat, n + 1 ≤ i + d → i ≤ n → (∀ j, j < i → ¬ (gI h (q + 1) j ≤ v ∧ v ≤ gI h (q + 2) j)) → z_X l G mtX3_has lv 0 0 (rI (if f v then 1 else 0) h) 0 0 h 2 [vR q, vI v, vI i] [] := by
    intro d
    induction d with
    | zero => intro i h1 h2 h3; omega
    | succ d ih =>
      intro i h1 h2 h3
      have hb' : i < n → InV (gI h (q + 1) i) ∧ InV (gI h (q + 2) i) := hb i
      unfold InV at hb'
      refine z_run1 tsX3_has [2] 30 ?_
      simp +contextual (disch := omega) only [z_wp_s, z_wp_0, pI_e, pL_e, pO_e, pR_e, p1_I, p1_O, z_gl, z_st1, z_st2, z_nl_I, z_nl_O, z_nl_J, z_nl_L, if_true, if_false, ite_true, ite_false, true_and, and_true, List.mem_cons, List.not_mem_nil, or_false, false_or, or_self, List.length_cons, List.length_nil, InR_t, InL_t, z_ix_t, mI_s1, mI_s2, ↓brT, ↓brF, ↓brT', ↓brF', mL_sI, mR_sI, mK_sI, mS_sI, mI_sL, mL_s1, mL_s2, mR_sL, mK_sL, mS_sL, mI_sR, mL_sR, mR_s1, mR_s2, mK_sR, mS_sR, mA_s1, mA_s2, mL_sA, mR_sA, mK_sA, mS_sA, ix_n, ix_a, ix_m, ix_s, z_sw, z_stop, forall_const, true_implies, false_implies, imp_self, implies_true, not_true_eq_false, not_false_eq_true, ne_eq, eq_self, Option.some.injEq, reduceCtorEq, Nat.reduceAdd, Nat.reduceSub, Nat.reduceMul, Nat.reduceEqDiff, Nat.reduceLT, Nat.reduceLeDiff, Int.reduceAdd, Int.reduceMul, Int.reduceSub, Int.reduceNeg, Int.reduceToNat, Int.reduceLT, Int.reduceLE, Int.reduceEq, ↓reduceIte, List.reverse_cons, Option.toList, List.cons_append, List.nil_append, vI_inj, vL_inj, vO_inj, rI, rL, rO, rV, tlX3_has, o_aload, o_getI, o_getR, o_goto, o_iald, o_ic, o_icge, o_icgt, o_iinc, o_iload, o_istore, o_zret, k0, k1, k2, r0, r1, hn]
      refine ⟨fun q1 => ?_, fun q1 => ⟨fun q2 => ?_, fun q2 => ⟨fun q3 => ?_, fun q3 => ?_⟩⟩⟩
      · rw [if_neg]
        rw [hf v hv.1 hv.2]
        rintro ⟨j, hj, hj2⟩
        exact h3 j (by omega) hj2
      · refine ih (i + 1) (by omega) (by omega) (fun j hj => ?_)
        by_cases hji : j = i
        · subst hji; omega
        · exact h3 j (by omega)
      · refine ih (i + 1) (by omega) (by omega) (fun j hj => ?_)
        by_cases hji : j = i
        · subst hji; omega
        · exact h3 j (by omega)
      · rw [if_pos]
        rw [hf v hv.1 hv.2]
        exact ⟨i, by omega, by omega, by omega⟩
  exact hl (n + 1) 0 (by omega) (by omega) (fun j hj => by omega)
set_option maxHeartbeats 4000000 in
theorem sp_Rg_empty (l : Launch) (G : zG) (h : zH) (q : Nat) (k0 : (gK h q).1 = 3) (lv : Nat) (hlv : 1 ≤ lv) : z_Sp l G mtX3_empty lv 0 0 [vR q] h (rV (sI h q 2 0)) := by
  refine x_enter [vR q] (by decide +kernel) (by omega) rfl (Nat.le_of_ble_eq_true rfl) ?_
  refine z_run1 tsX3_empty [] 10 ?_
  simp +contextual (disch := omega) only [z_wp_s, z_wp_0, pI_e, pL_e, pO_e, pR_e, p1_I, p1_O, z_gl, z_st1, z_st2, z_nl_I, z_nl_O, z_nl_J, z_nl_L, if_true, if_false, ite_true, ite_false, true_and, and_true, List.mem_cons, List.not_mem_nil, or_false, false_or, or_self, List.length_cons, List.length_nil, InR_t, InL_t, z_ix_t, mI_s1, mI_s2, ↓brT, ↓brF, ↓brT', ↓brF', mL_sI, mR_sI, mK_sI, mS_sI, mI_sL, mL_s1, mL_s2, mR_sL, mK_sL, mS_sL, mI_sR, mL_sR, mR_s1, mR_s2, mK_sR, mS_sR, mA_s1, mA_s2, mL_sA, mR_sA, mK_sA, mS_sA, ix_n, ix_a, ix_m, ix_s, z_sw, z_stop, forall_const, true_implies, false_implies, imp_self, implies_true, not_true_eq_false, not_false_eq_true, ne_eq, eq_self, Option.some.injEq, reduceCtorEq, Nat.reduceAdd, Nat.reduceSub, Nat.reduceMul, Nat.reduceEqDiff, Nat.reduceLT, Nat.reduceLeDiff, Int.reduceAdd, Int.reduceMul, Int.reduceSub, Int.reduceNeg, Int.reduceToNat, Int.reduceLT, Int.reduceLE, Int.reduceEq, ↓reduceIte, List.reverse_cons, Option.toList, List.cons_append, List.nil_append, vI_inj, vL_inj, vO_inj, rI, rL, rO, rV, tlX3_empty, o_aload, o_ic, o_putI, o_vret, k0]
set_option maxHeartbeats 4000000 in
theorem sp_Rg_append (l : Launch) (G : zG) (h : zH) (q N n : Nat) (a b : Int) (hR : RgP h q N n) (lv : Nat) (hlv : 1 ≤ lv) : z_Sp l G mtX3_appendPart lv 0 0 [vR q, vI a, vI b] h (rV (if n < N then sI (sI (sI h (q + 1) n a) (q + 2) n b) q 2 (n + 1) else h)) := by
  obtain ⟨⟨k0, k1, k2, r0, r1, hN⟩, hn, hnN, hb⟩ := hR
  refine x_enter [vR q, vI a, vI b] (by decide +kernel) (by omega) rfl (Nat.le_of_ble_eq_true rfl) ?_
  by_cases hlt : n < N
  · rw [if_pos hlt]
    refine z_run1 tsX3_appendPart [] 40 ?_
    simp +contextual (disch := omega) only [z_wp_s, z_wp_0, pI_e, pL_e, pO_e, pR_e, p1_I, p1_O, z_gl, z_st1, z_st2, z_nl_I, z_nl_O, z_nl_J, z_nl_L, if_true, if_false, ite_true, ite_false, true_and, and_true, List.mem_cons, List.not_mem_nil, or_false, false_or, or_self, List.length_cons, List.length_nil, InR_t, InL_t, z_ix_t, mI_s1, mI_s2, ↓brT, ↓brF, ↓brT', ↓brF', mL_sI, mR_sI, mK_sI, mS_sI, mI_sL, mL_s1, mL_s2, mR_sL, mK_sL, mS_sL, mI_sR, mL_sR, mR_s1, mR_s2, mK_sR, mS_sR, mA_s1, mA_s2, mL_sA, mR_sA, mK_sA, mS_sA, ix_n, ix_a, ix_m, ix_s, z_sw, z_stop, forall_const, true_implies, false_implies, imp_self, implies_true, not_true_eq_false, not_false_eq_true, ne_eq, eq_self, Option.some.injEq, reduceCtorEq, Nat.reduceAdd, Nat.reduceSub, Nat.reduceMul, Nat.reduceEqDiff, Nat.reduceLT, Nat.reduceLeDiff, Int.reduceAdd, Int.reduceMul, Int.reduceSub, Int.reduceNeg, Int.reduceToNat, Int.reduceLT, Int.reduceLE, Int.reduceEq, ↓reduceIte, List.reverse_cons, Option.toList, List.cons_append, List.nil_append, vI_inj, vL_inj, vO_inj, rI, rL, rO, rV, tlX3_appendPart, o_alen, o_aload, o_dup, o_getI, o_getR, o_iadd, o_iast, o_ic, o_icge, o_iload, o_putI, o_vret, k0, k1, k2, r0, r1, hn]
  · rw [if_neg hlt]
    refine z_run1 tsX3_appendPart [] 40 ?_
    simp +contextual (disch := omega) only [z_wp_s, z_wp_0, pI_e, pL_e, pO_e, pR_e, p1_I, p1_O, z_gl, z_st1, z_st2, z_nl_I, z_nl_O, z_nl_J, z_nl_L, if_true, if_false, ite_true, ite_false, true_and, and_true, List.mem_cons, List.not_mem_nil, or_false, false_or, or_self, List.length_cons, List.length_nil, InR_t, InL_t, z_ix_t, mI_s1, mI_s2, ↓brT, ↓brF, ↓brT', ↓brF', mL_sI, mR_sI, mK_sI, mS_sI, mI_sL, mL_s1, mL_s2, mR_sL, mK_sL, mS_sL, mI_sR, mL_sR, mR_s1, mR_s2, mK_sR, mS_sR, mA_s1, mA_s2, mL_sA, mR_sA, mK_sA, mS_sA, ix_n, ix_a, ix_m, ix_s, z_sw, z_stop, forall_const, true_implies, false_implies, imp_self, implies_true, not_true_eq_false, not_false_eq_true, ne_eq, eq_self, Option.some.injEq, reduceCtorEq, Nat.reduceAdd, Nat.reduceSub, Nat.reduceMul, Nat.reduceEqDiff, Nat.reduceLT, Nat.reduceLeDiff, Int.reduceAdd, Int.reduceMul, Int.reduceSub, Int.reduceNeg, Int.reduceToNat, Int.reduceLT, Int.reduceLE, Int.reduceEq, ↓reduceIte, List.reverse_cons, Option.toList, List.cons_append, List.nil_append, vI_inj, vL_inj, vO_inj, rI, rL, rO, rV, tlX3_appendPart, o_alen, o_aload, o_dup, o_getI, o_getR, o_iadd, o_iast, o_ic, o_icge, o_iload, o_putI, o_vret, k0, k1, k2, r0, r1, hn]
def actB (fe ft : Int) : Bool := decide (ft = 0) || tb fe ft.toNat
set_option maxHeartbeats 4000000 in
theorem sp_Ru_active (l : Launch) (G : zG) (h : zH) (q : Nat) (fe ft : Int) (k0 : (gK h q).1 = 4) (h0 : gI h q 0 = ft) (hft : 0 ≤ ft ∧ ft ≤ 4) (lv : Nat) (hlv : 1 ≤ lv) : z_Sp l G mtX4_isActive lv 0 0 [vR q, vI fe] h (rI (if actB fe ft then 1 else 0) h) := by
  have hbit := z_bit fe (k := ft.toNat) (by omega)
  rw [show ((ft.toNat : Nat) : Int) = ft by omega] at hbit
  refine x_enter [vR q, vI fe] (by decide +kernel) (by omega) rfl (Nat.le_of_ble_eq_true rfl) ?_
  refine z_run1 tsX4_isActive [] 40 ?_
  simp +contextual (disch := omega) only [z_wp_s, z_wp_0, pI_e, pL_e, pO_e, pR_e, p1_I, p1_O, z_gl, z_st1, z_st2, z_nl_I, z_nl_O, z_nl_J, z_nl_L, if_true, if_false, ite_true, ite_false, true_and, and_true, List.mem_cons, List.not_mem_nil, or_false, false_or, or_self, List.length_cons, List.length_nil, InR_t, InL_t, z_ix_t, mI_s1, mI_s2, ↓brT, ↓brF, ↓brT', ↓brF', mL_sI, mR_sI, mK_sI, mS_sI, mI_sL, mL_s1, mL_s2, mR_sL, mK_sL, mS_sL, mI_sR, mL_sR, mR_s1, mR_s2, mK_sR, mS_sR, mA_s1, mA_s2, mL_sA, mR_sA, mK_sA, mS_sA, ix_n, ix_a, ix_m, ix_s, z_sw, z_stop, forall_const, true_implies, false_implies, imp_self, implies_true, not_true_eq_false, not_false_eq_true, ne_eq, eq_self, Option.some.injEq, reduceCtorEq, Nat.reduceAdd, Nat.reduceSub, Nat.reduceMul, Nat.reduceEqDiff, Nat.reduceLT, Nat.reduceLeDiff, Int.reduceAdd, Int.reduceMul, Int.reduceSub, Int.reduceNeg, Int.reduceToNat, Int.reduceLT, Int.reduceLE, Int.reduceEq, ↓reduceIte, List.reverse_cons, Option.toList, List.cons_append, List.nil_append, vI_inj, vL_inj, vO_inj, rI, rL, rO, rV, tlX4_isActive, o_aload, o_getI, o_goto, o_iand, o_ic, o_icne, o_ifeq, o_iload, o_ishr, o_zret, k0, h0, hbit]
  unfold actB
  by_cases q1 : ft = 0
  · simp [q1]
  · cases q2 : tb fe ft.toNat <;> simp [q1, q2]
