theorem impF {c P : Prop} (h : ¬ c) : (c → P) = True := by simp [h]
theorem impT {c P : Prop} (h : c) : (c → P) = P := by simp [h]
/-! the text and its reading, as functions -/
def ck (t : Nat → Int) (n i : Nat) : Int := if i < n then t i else -1
def skF (t : Nat → Int) (n : Nat) : Nat → Nat → Nat
  | 0, i => i
  | d + 1, i => if ck t n i = 32 then skF t n d (i + 1) else i
def sk (t : Nat → Int) (n i : Nat) : Nat := skF t n (n - i) i
theorem ck_R {t : Nat → Int} {n : Nat} (ht : ∀ i, i < n → 0 ≤ t i ∧ t i ≤ 127) (i : Nat) : -1 ≤ ck t n i ∧ ck t n i ≤ 127 := by
  unfold ck
  split
  · rename_i h; have := ht i h; omega
  · omega
theorem ck_lt {t : Nat → Int} {n i : Nat} (h : ck t n i ≠ -1) : i < n := by
  unfold ck at h
  split at h
  · assumption
  · exact absurd rfl h
theorem skF_le (t : Nat → Int) (n : Nat) : ∀ d i, i ≤ skF t n d i ∧ skF t n d i ≤ i + d
  | 0, i => by simp [skF]
  | d + 1, i => by
    simp only [skF]
    split
    · have := skF_le t n d (i + 1); omega
    · omega
theorem sk_le (t : Nat → Int) {n i : Nat} (h : i ≤ n) : i ≤ sk t n i ∧ sk t n i ≤ n := by
  have := skF_le t n (n - i) i
  unfold sk
  omega
theorem skF_b (t : Nat → Int) (n : Nat) : ∀ d i, n ≤ i + d → ck t n (skF t n d i) ≠ 32
  | 0, i, h => by show ck t n i ≠ 32; unfold ck; rw [if_neg (by omega)]; omega
  | d + 1, i, h => by
    simp only [skF]
    split
    · exact skF_b t n d (i + 1) (by omega)
    · assumption
theorem sk_b (t : Nat → Int) (n i : Nat) : ck t n (sk t n i) ≠ 32 := skF_b t n (n - i) i (by omega)
theorem sk_1 {t : Nat → Int} {n i : Nat} (h : ck t n i = 32) : sk t n i = sk t n (i + 1) := by
  have hi := ck_lt (t := t) (n := n) (i := i) (by rw [h]; decide)
  unfold sk
  rw [show n - i = (n - (i + 1)) + 1 by omega]
  simp only [skF, h, if_true]
theorem sk_0 {t : Nat → Int} {n i : Nat} (h : ck t n i ≠ 32) : sk t n i = i := by
  unfold sk
  cases n - i with
  | zero => rfl
  | succ d => simp only [skF, if_neg h]
def dg (c : Int) : Bool := decide (48 ≤ c ∧ c ≤ 57)
def sg (c : Int) : Bool := decide (c = 94 ∨ c = 126 ∨ c = 62 ∨ c = 60)
def sb (c : Int) : Bool := decide (c = 42) || sg c || dg c
def pFin (t : Nat → Int) (n j : Nat) (v d : Int) : Bool × Nat × Int × Int := if dg (ck t n j) then (false, j, v, d) else (true, sk t n j, v, d)
def pV3 (t : Nat → Int) (n j : Nat) (v : Int) : Bool × Nat × Int × Int := if dg (ck t n j) then pFin t n (j + 1) (v + (ck t n j - 48) * 1) 3 else (false, j, v, 2)
def pV2 (t : Nat → Int) (n j : Nat) (v : Int) : Bool × Nat × Int × Int := if dg (ck t n j) then (if ck t n (j + 1) = 46 then pV3 t n (j + 2) (v + (ck t n j - 48) * 10) else pFin t n (j + 1) (v + (ck t n j - 48) * 10) 2) else (false, j, v, 1)
def pVer (t : Nat → Int) (n j : Nat) : Bool × Nat × Int × Int := if dg (ck t n j) then (if ck t n (j + 1) = 46 then pV2 t n (j + 2) (0 + (ck t n j - 48) * 100) else pFin t n (j + 1) (0 + (ck t n j - 48) * 100) 1) else (false, j, 0, 0)
/-- the text in the heap sA h 85 f -/
def Tx (h : zH) (f t : Nat → Int) (n : Nat) : Prop := (gK h 85).1 = 5 ∧ gK h 86 = (9, 40) ∧ gR h 85 0 = some 86 ∧ gR h 85 6 = some 87 ∧ gR h 85 9 = some 90 ∧ n ≤ 40 ∧ f 1 = (n : Int) ∧ (∀ i, i < n → gI h 86 i = t i) ∧ ∀ i, i < n → 0 ≤ t i ∧ t i ≤ 127
theorem Tx.up {h : zH} {f t : Nat → Int} {n : Nat} (hT : Tx h f t n) {g : Nat → Int} (hg : g 1 = f 1) : Tx h g t n := by
  obtain ⟨h1, h2, h3, h4, h5, h6, h7, h8⟩ := hT
  exact ⟨h1, h2, h3, h4, h5, h6, by rw [hg]; exact h7, h8⟩
theorem up_same {f : Nat → Int} {k : Nat} {z : Int} (h : f k = z) : up f k z = f := by
  funext j
  unfold up
  split
  · rename_i e; rw [e, h]
  · rfl
theorem up_up (f : Nat → Int) (k : Nat) (z w : Int) : up (up f k z) k w = up f k w := by
  funext j
  unfold up
  split <;> rfl
set_option maxHeartbeats 4000000 in
theorem sp_peek (l : Launch) (G : zG) (h : zH) (f t : Nat → Int) (n i : Nat) (hT : Tx h f t n) (hi : f 2 = (i : Int)) (hi40 : i ≤ 40) (lv : Nat) (hlv : 1 ≤ lv) : z_Sp l G mtX5_peek lv 0 0 [vR 85] (sA h 85 f) (rI (ck t n i) (sA h 85 f)) := by
  obtain ⟨k0, k1, r0, r1, r2, hn, hf1, ht, hb⟩ := hT
  refine x_enter [vR 85] (by decide +kernel) (by omega) rfl (Nat.le_of_ble_eq_true rfl) ?_
  unfold ck
  by_cases hin : i < n
  · rw [if_pos hin]
    have e := ht i hin
    refine z_run1 tsX5_peek [] 30 ?_
    simp +contextual (disch := omega) only [z_wp_s, z_wp_0, pI_e, pL_e, pO_e, pR_e, p1_I, p1_O, z_gl, z_st1, z_st2, z_nl_I, z_nl_O, z_nl_J, z_nl_L, if_true, if_false, ite_true, ite_false, true_and, and_true, List.mem_cons, List.not_mem_nil, or_false, false_or, or_self, List.length_cons, List.length_nil, InR_t, InL_t, z_ix_t, mI_s1, mI_s2, ↓brT, ↓brF, ↓brT', ↓brF', mL_sI, mR_sI, mK_sI, mS_sI, mI_sL, mL_s1, mL_s2, mR_sL, mK_sL, mS_sL, mI_sR, mL_sR, mR_s1, mR_s2, mK_sR, mS_sR, mA_s1, mA_s2, mL_sA, mR_sA, mK_sA, mS_sA, ix_n, ix_a, ix_m, ix_s, z_sw, z_stop, forall_const, true_implies, false_implies, imp_self, implies_true, not_true_eq_false, not_false_eq_true, ne_eq, eq_self, Option.some.injEq, reduceCtorEq, Nat.reduceAdd, Nat.reduceSub, Nat.reduceMul, Nat.reduceEqDiff, Nat.reduceLT, Nat.reduceLeDiff, Int.reduceAdd, Int.reduceMul, Int.reduceSub, Int.reduceNeg, Int.reduceToNat, Int.reduceLT, Int.reduceLE, Int.reduceEq, ↓reduceIte, List.reverse_cons, Option.toList, List.cons_append, List.nil_append, vI_inj, vL_inj, vO_inj, rI, rL, rO, rV, mI_sQ, mL_sQ, mK_sQ, mS_sQ, mQ_s1, mQ_s2, tlX5_peek, o_aload, o_getI, o_getR, o_goto, o_iald, o_ic, o_icge, o_iflt, o_iret, k0, k1, r0, hf1, hi, e]
    try simp +contextual (disch := omega) only [impF, impT, and_true, true_and, implies_true, not_false_eq_true, not_true_eq_false]
  · rw [if_neg hin]
    refine z_run1 tsX5_peek [] 30 ?_
    simp +contextual (disch := omega) only [z_wp_s, z_wp_0, pI_e, pL_e, pO_e, pR_e, p1_I, p1_O, z_gl, z_st1, z_st2, z_nl_I, z_nl_O, z_nl_J, z_nl_L, if_true, if_false, ite_true, ite_false, true_and, and_true, List.mem_cons, List.not_mem_nil, or_false, false_or, or_self, List.length_cons, List.length_nil, InR_t, InL_t, z_ix_t, mI_s1, mI_s2, ↓brT, ↓brF, ↓brT', ↓brF', mL_sI, mR_sI, mK_sI, mS_sI, mI_sL, mL_s1, mL_s2, mR_sL, mK_sL, mS_sL, mI_sR, mL_sR, mR_s1, mR_s2, mK_sR, mS_sR, mA_s1, mA_s2, mL_sA, mR_sA, mK_sA, mS_sA, ix_n, ix_a, ix_m, ix_s, z_sw, z_stop, forall_const, true_implies, false_implies, imp_self, implies_true, not_true_eq_false, not_false_eq_true, ne_eq, eq_self, Option.some.injEq, reduceCtorEq, Nat.reduceAdd, Nat.reduceSub, Nat.reduceMul, Nat.reduceEqDiff, Nat.reduceLT, Nat.reduceLeDiff, Int.reduceAdd, Int.reduceMul, Int.reduceSub, Int.reduceNeg, Int.reduceToNat, Int.reduceLT, Int.reduceLE, Int.reduceEq, ↓reduceIte, List.reverse_cons, Option.toList, List.cons_append, List.nil_append, vI_inj, vL_inj, vO_inj, rI, rL, rO, rV, mI_sQ, mL_sQ, mK_sQ, mS_sQ, mQ_s1, mQ_s2, tlX5_peek, o_aload, o_getI, o_getR, o_goto, o_iald, o_ic, o_icge, o_iflt, o_iret, k0, k1, r0, hf1, hi]
    try simp +contextual (disch := omega) only [impF, impT, and_true, true_and, implies_true, not_false_eq_true, not_true_eq_false]
set_option maxHeartbeats 4000000 in
theorem sp_skip (l : Launch) (G : zG) (h : zH) (f t : Nat → Int) (n i : Nat) (hT : Tx h f t n) (hi : f 2 = (i : Int)) (hi40 : i ≤ n) (lv : Nat) (hlv : 1 ≤ lv) : z_Sp l G mtX5_skipBlanks lv 0 0 [vR 85] (sA h 85 f) (rV (sA h 85 (up f 2 (sk t n i : Nat)))) := by
  obtain ⟨k0, k1, r0, r1, r2, hn, hf1, ht, hb⟩ := hT
  refine x_enter [vR 85] (by decide +kernel) (by omega) rfl (Nat.le_of_ble_eq_true rfl) ?_
  have hlo : ∀ (d i : Nat) (g : Nat → Int), i + d = n → g 2 = (i : Int) → g 1 = (n : Int) → up g 2 (sk t n i : Nat) = up f 2 (sk t n i : Nat) → z_X l G mtX5_skipBlanks lv 0 0 (rV (sA h 85 (up f 2 (sk t n i : Nat)))) 0 0 (sA h 85 g) 0 [vR 85] [] := by
    intro d
    induction d with
    | zero =>
      intro i g h1 h2 h3 h4
      have hp : ck t n i ≠ 32 := by unfold ck; rw [if_neg (by omega)]; omega
      refine z_run1 tsX5_skipBlanks [0] 30 ?_
      simp +contextual (disch := omega) only [z_wp_s, z_wp_0, pI_e, pL_e, pO_e, pR_e, p1_I, p1_O, z_gl, z_st1, z_st2, z_nl_I, z_nl_O, z_nl_J, z_nl_L, if_true, if_false, ite_true, ite_false, true_and, and_true, List.mem_cons, List.not_mem_nil, or_false, false_or, or_self, List.length_cons, List.length_nil, InR_t, InL_t, z_ix_t, mI_s1, mI_s2, ↓brT, ↓brF, ↓brT', ↓brF', mL_sI, mR_sI, mK_sI, mS_sI, mI_sL, mL_s1, mL_s2, mR_sL, mK_sL, mS_sL, mI_sR, mL_sR, mR_s1, mR_s2, mK_sR, mS_sR, mA_s1, mA_s2, mL_sA, mR_sA, mK_sA, mS_sA, ix_n, ix_a, ix_m, ix_s, z_sw, z_stop, forall_const, true_implies, false_implies, imp_self, implies_true, not_true_eq_false, not_false_eq_true, ne_eq, eq_self, Option.some.injEq, reduceCtorEq, Nat.reduceAdd, Nat.reduceSub, Nat.reduceMul, Nat.reduceEqDiff, Nat.reduceLT, Nat.reduceLeDiff, Int.reduceAdd, Int.reduceMul, Int.reduceSub, Int.reduceNeg, Int.reduceToNat, Int.reduceLT, Int.reduceLE, Int.reduceEq, ↓reduceIte, List.reverse_cons, Option.toList, List.cons_append, List.nil_append, vI_inj, vL_inj, vO_inj, rI, rL, rO, rV, mI_sQ, mL_sQ, mK_sQ, mS_sQ, mQ_s1, mQ_s2, tlX5_skipBlanks, o_aload, o_dup, o_getI, o_getR, o_goto, o_iadd, o_iald, o_ic, o_icge, o_icne, o_iflt, o_putI, o_vret, k0, k1, r0, h2, h3]
      try simp +contextual (disch := omega) only [impF, impT, and_true, true_and, implies_true, not_false_eq_true, not_true_eq_false]
      rw [← h4, sk_0 hp, up_same h2]
    | succ d ih =>
      intro i g h1 h2 h3 h4
      have e := ht i (by omega)
      have e2 := hb i (by omega)
      by_cases hp : t i = 32
      · have hp' : ck t n i = 32 := by unfold ck; rw [if_pos (by omega)]; exact hp
        have h5 := ih (i + 1) (up g 2 ((i : Int) + 1)) (by omega) (by rw [up_s]; omega) (by rw [up_n _ _ (by decide)]; exact h3) (by rw [up_up, ← sk_1 hp']; exact h4)
        rw [← sk_1 hp'] at h5
        refine z_run1 tsX5_skipBlanks [0] 30 ?_
        simp +contextual (disch := omega) only [z_wp_s, z_wp_0, pI_e, pL_e, pO_e, pR_e, p1_I, p1_O, z_gl, z_st1, z_st2, z_nl_I, z_nl_O, z_nl_J, z_nl_L, if_true, if_false, ite_true, ite_false, true_and, and_true, List.mem_cons, List.not_mem_nil, or_false, false_or, or_self, List.length_cons, List.length_nil, InR_t, InL_t, z_ix_t, mI_s1, mI_s2, ↓brT, ↓brF, ↓brT', ↓brF', mL_sI, mR_sI, mK_sI, mS_sI, mI_sL, mL_s1, mL_s2, mR_sL, mK_sL, mS_sL, mI_sR, mL_sR, mR_s1, mR_s2, mK_sR, mS_sR, mA_s1, mA_s2, mL_sA, mR_sA, mK_sA, mS_sA, ix_n, ix_a, ix_m, ix_s, z_sw, z_stop, forall_const, true_implies, false_implies, imp_self, implies_true, not_true_eq_false, not_false_eq_true, ne_eq, eq_self, Option.some.injEq, reduceCtorEq, Nat.reduceAdd, Nat.reduceSub, Nat.reduceMul, Nat.reduceEqDiff, Nat.reduceLT, Nat.reduceLeDiff, Int.reduceAdd, Int.reduceMul, Int.reduceSub, Int.reduceNeg, Int.reduceToNat, Int.reduceLT, Int.reduceLE, Int.reduceEq, ↓reduceIte, List.reverse_cons, Option.toList, List.cons_append, List.nil_append, vI_inj, vL_inj, vO_inj, rI, rL, rO, rV, mI_sQ, mL_sQ, mK_sQ, mS_sQ, mQ_s1, mQ_s2, tlX5_skipBlanks, o_aload, o_dup, o_getI, o_getR, o_goto, o_iadd, o_iald, o_ic, o_icge, o_icne, o_iflt, o_putI, o_vret, k0, k1, r0, h2, h3, e, hp, sI_sA]
        try simp +contextual (disch := omega) only [impF, impT, and_true, true_and, implies_true, not_false_eq_true, not_true_eq_false]
        exact h5
      · have hp' : ck t n i ≠ 32 := by unfold ck; rw [if_pos (by omega)]; exact hp
        refine z_run1 tsX5_skipBlanks [0] 30 ?_
        simp +contextual (disch := omega) only [z_wp_s, z_wp_0, pI_e, pL_e, pO_e, pR_e, p1_I, p1_O, z_gl, z_st1, z_st2, z_nl_I, z_nl_O, z_nl_J, z_nl_L, if_true, if_false, ite_true, ite_false, true_and, and_true, List.mem_cons, List.not_mem_nil, or_false, false_or, or_self, List.length_cons, List.length_nil, InR_t, InL_t, z_ix_t, mI_s1, mI_s2, ↓brT, ↓brF, ↓brT', ↓brF', mL_sI, mR_sI, mK_sI, mS_sI, mI_sL, mL_s1, mL_s2, mR_sL, mK_sL, mS_sL, mI_sR, mL_sR, mR_s1, mR_s2, mK_sR, mS_sR, mA_s1, mA_s2, mL_sA, mR_sA, mK_sA, mS_sA, ix_n, ix_a, ix_m, ix_s, z_sw, z_stop, forall_const, true_implies, false_implies, imp_self, implies_true, not_true_eq_false, not_false_eq_true, ne_eq, eq_self, Option.some.injEq, reduceCtorEq, Nat.reduceAdd, Nat.reduceSub, Nat.reduceMul, Nat.reduceEqDiff, Nat.reduceLT, Nat.reduceLeDiff, Int.reduceAdd, Int.reduceMul, Int.reduceSub, Int.reduceNeg, Int.reduceToNat, Int.reduceLT, Int.reduceLE, Int.reduceEq, ↓reduceIte, List.reverse_cons, Option.toList, List.cons_append, List.nil_append, vI_inj, vL_inj, vO_inj, rI, rL, rO, rV, mI_sQ, mL_sQ, mK_sQ, mS_sQ, mQ_s1, mQ_s2, tlX5_skipBlanks, o_aload, o_dup, o_getI, o_getR, o_goto, o_iadd, o_iald, o_ic, o_icge, o_icne, o_iflt, o_putI, o_vret, k0, k1, r0, h2, h3, e]
        try simp +contextual (disch := omega) only [impF, impT, and_true, true_and, implies_true, not_false_eq_true, not_true_eq_false]
        rw [← h4, sk_0 hp', up_same h2]
  exact hlo (n - i) i f (by omega) hi hf1 rfl
set_option maxHeartbeats 4000000 in
theorem sp_take (l : Launch) (G : zG) (h : zH) (f t : Nat → Int) (n i : Nat) (c : Int) (hT : Tx h f t n) (hi : f 2 = (i : Int)) (hi40 : i ≤ n) (hf3 : f 3 = 0) (hc : 0 ≤ c ∧ c ≤ 127) (lv : Nat) (hlv : 2 ≤ lv) : z_Sp l G mtX5_take lv 0 0 [vR 85, vI c] (sA h 85 f) (fun r h' => if ck t n i = c then r = some (vI 1) ∧ h' = sA h 85 (up f 2 (sk t n (i + 1) : Nat)) else r = some (vI 0) ∧ h' = sA h 85 f) := by
  have hT0 := hT
  obtain ⟨k0, k1, r0, r1, r2, hn, hf1, ht, hb⟩ := hT
  have hpr := ck_R hb i
  refine x_enter [vR 85, vI c] (by decide +kernel) (by omega) rfl (Nat.le_of_ble_eq_true rfl) ?_
  refine z_run1 tsX5_take [] 30 ?_
  simp +contextual (disch := omega) only [z_wp_s, z_wp_0, pI_e, pL_e, pO_e, pR_e, p1_I, p1_O, z_gl, z_st1, z_st2, z_nl_I, z_nl_O, z_nl_J, z_nl_L, if_true, if_false, ite_true, ite_false, true_and, and_true, List.mem_cons, List.not_mem_nil, or_false, false_or, or_self, List.length_cons, List.length_nil, InR_t, InL_t, z_ix_t, mI_s1, mI_s2, ↓brT, ↓brF, ↓brT', ↓brF', mL_sI, mR_sI, mK_sI, mS_sI, mI_sL, mL_s1, mL_s2, mR_sL, mK_sL, mS_sL, mI_sR, mL_sR, mR_s1, mR_s2, mK_sR, mS_sR, mA_s1, mA_s2, mL_sA, mR_sA, mK_sA, mS_sA, ix_n, ix_a, ix_m, ix_s, z_sw, z_stop, forall_const, true_implies, false_implies, imp_self, implies_true, not_true_eq_false, not_false_eq_true, ne_eq, eq_self, Option.some.injEq, reduceCtorEq, Nat.reduceAdd, Nat.reduceSub, Nat.reduceMul, Nat.reduceEqDiff, Nat.reduceLT, Nat.reduceLeDiff, Int.reduceAdd, Int.reduceMul, Int.reduceSub, Int.reduceNeg, Int.reduceToNat, Int.reduceLT, Int.reduceLE, Int.reduceEq, ↓reduceIte, List.reverse_cons, Option.toList, List.cons_append, List.nil_append, vI_inj, vL_inj, vO_inj, rI, rL, rO, rV, mI_sQ, mL_sQ, mK_sQ, mS_sQ, mQ_s1, mQ_s2, tlX5_take, tkX5_take, o_aload, o_dup, o_getI, o_iadd, o_ic, o_iceq, o_ifne, o_iload, o_putI, o_zret, k0, hf3]
  try simp +contextual (disch := omega) only [impF, impT, and_true, true_and, implies_true, not_false_eq_true, not_true_eq_false]
  refine x_callV (by decide +kernel) cv_X5_68 (sp_peek l G h f t n i hT0 hi (by omega) 1 (by omega)) k0 (by omega) rfl (by omega) (by omega) rfl (Nat.le_of_ble_eq_true rfl) ?_
  rintro r h' ⟨rfl, rfl⟩
  by_cases hp : ck t n i = c
  · have hin := ck_lt (t := t) (n := n) (i := i) (by omega)
    simp only [if_pos hp]
    refine z_run1 tsX5_take [] 30 ?_
    simp +contextual (disch := omega) only [z_wp_s, z_wp_0, pI_e, pL_e, pO_e, pR_e, p1_I, p1_O, z_gl, z_st1, z_st2, z_nl_I, z_nl_O, z_nl_J, z_nl_L, if_true, if_false, ite_true, ite_false, true_and, and_true, List.mem_cons, List.not_mem_nil, or_false, false_or, or_self, List.length_cons, List.length_nil, InR_t, InL_t, z_ix_t, mI_s1, mI_s2, ↓brT, ↓brF, ↓brT', ↓brF', mL_sI, mR_sI, mK_sI, mS_sI, mI_sL, mL_s1, mL_s2, mR_sL, mK_sL, mS_sL, mI_sR, mL_sR, mR_s1, mR_s2, mK_sR, mS_sR, mA_s1, mA_s2, mL_sA, mR_sA, mK_sA, mS_sA, ix_n, ix_a, ix_m, ix_s, z_sw, z_stop, forall_const, true_implies, false_implies, imp_self, implies_true, not_true_eq_false, not_false_eq_true, ne_eq, eq_self, Option.some.injEq, reduceCtorEq, Nat.reduceAdd, Nat.reduceSub, Nat.reduceMul, Nat.reduceEqDiff, Nat.reduceLT, Nat.reduceLeDiff, Int.reduceAdd, Int.reduceMul, Int.reduceSub, Int.reduceNeg, Int.reduceToNat, Int.reduceLT, Int.reduceLE, Int.reduceEq, ↓reduceIte, List.reverse_cons, Option.toList, List.cons_append, List.nil_append, vI_inj, vL_inj, vO_inj, rI, rL, rO, rV, mI_sQ, mL_sQ, mK_sQ, mS_sQ, mQ_s1, mQ_s2, tlX5_take, tkX5_take, o_aload, o_dup, o_getI, o_iadd, o_ic, o_iceq, o_ifne, o_iload, o_putI, o_zret, k0, hi, hp, sI_sA]
    try simp +contextual (disch := omega) only [impF, impT, and_true, true_and, implies_true, not_false_eq_true, not_true_eq_false]
    refine x_callV (by decide +kernel) cv_X5_87 (sp_skip l G h (up f 2 ((i : Int) + 1)) t n (i + 1) (hT0.up (by rw [up_n _ _ (by decide)])) (by rw [up_s]; omega) (by omega) 1 (by omega)) k0 (by omega) rfl (by omega) (by omega) rfl (Nat.le_of_ble_eq_true rfl) ?_
    rintro r h' ⟨rfl, rfl⟩
    refine z_run1 tsX5_take [] 30 ?_
    simp +contextual (disch := omega) only [z_wp_s, z_wp_0, pI_e, pL_e, pO_e, pR_e, p1_I, p1_O, z_gl, z_st1, z_st2, z_nl_I, z_nl_O, z_nl_J, z_nl_L, if_true, if_false, ite_true, ite_false, true_and, and_true, List.mem_cons, List.not_mem_nil, or_false, false_or, or_self, List.length_cons, List.length_nil, InR_t, InL_t, z_ix_t, mI_s1, mI_s2, ↓brT, ↓brF, ↓brT', ↓brF', mL_sI, mR_sI, mK_sI, mS_sI, mI_sL, mL_s1, mL_s2, mR_sL, mK_sL, mS_sL, mI_sR, mL_sR, mR_s1, mR_s2, mK_sR, mS_sR, mA_s1, mA_s2, mL_sA, mR_sA, mK_sA, mS_sA, ix_n, ix_a, ix_m, ix_s, z_sw, z_stop, forall_const, true_implies, false_implies, imp_self, implies_true, not_true_eq_false, not_false_eq_true, ne_eq, eq_self, Option.some.injEq, reduceCtorEq, Nat.reduceAdd, Nat.reduceSub, Nat.reduceMul, Nat.reduceEqDiff, Nat.reduceLT, Nat.reduceLeDiff, Int.reduceAdd, Int.reduceMul, Int.reduceSub, Int.reduceNeg, Int.reduceToNat, Int.reduceLT, Int.reduceLE, Int.reduceEq, ↓reduceIte, List.reverse_cons, Option.toList, List.cons_append, List.nil_append, vI_inj, vL_inj, vO_inj, rI, rL, rO, rV, mI_sQ, mL_sQ, mK_sQ, mS_sQ, mQ_s1, mQ_s2, tlX5_take, tkX5_take, o_aload, o_dup, o_getI, o_iadd, o_ic, o_iceq, o_ifne, o_iload, o_putI, o_zret, up_up]
    try simp +contextual (disch := omega) only [impF, impT, and_true, true_and, implies_true, not_false_eq_true, not_true_eq_false]
  · simp only [if_neg hp]
    refine z_run1 tsX5_take [] 30 ?_
    simp +contextual (disch := omega) only [z_wp_s, z_wp_0, pI_e, pL_e, pO_e, pR_e, p1_I, p1_O, z_gl, z_st1, z_st2, z_nl_I, z_nl_O, z_nl_J, z_nl_L, if_true, if_false, ite_true, ite_false, true_and, and_true, List.mem_cons, List.not_mem_nil, or_false, false_or, or_self, List.length_cons, List.length_nil, InR_t, InL_t, z_ix_t, mI_s1, mI_s2, ↓brT, ↓brF, ↓brT', ↓brF', mL_sI, mR_sI, mK_sI, mS_sI, mI_sL, mL_s1, mL_s2, mR_sL, mK_sL, mS_sL, mI_sR, mL_sR, mR_s1, mR_s2, mK_sR, mS_sR, mA_s1, mA_s2, mL_sA, mR_sA, mK_sA, mS_sA, ix_n, ix_a, ix_m, ix_s, z_sw, z_stop, forall_const, true_implies, false_implies, imp_self, implies_true, not_true_eq_false, not_false_eq_true, ne_eq, eq_self, Option.some.injEq, reduceCtorEq, Nat.reduceAdd, Nat.reduceSub, Nat.reduceMul, Nat.reduceEqDiff, Nat.reduceLT, Nat.reduceLeDiff, Int.reduceAdd, Int.reduceMul, Int.reduceSub, Int.reduceNeg, Int.reduceToNat, Int.reduceLT, Int.reduceLE, Int.reduceEq, ↓reduceIte, List.reverse_cons, Option.toList, List.cons_append, List.nil_append, vI_inj, vL_inj, vO_inj, rI, rL, rO, rV, mI_sQ, mL_sQ, mK_sQ, mS_sQ, mQ_s1, mQ_s2, tlX5_take, tkX5_take, o_aload, o_dup, o_getI, o_iadd, o_ic, o_iceq, o_ifne, o_iload, o_putI, o_zret, k0]
    try simp +contextual (disch := omega) only [impF, impT, and_true, true_and, implies_true, not_false_eq_true, not_true_eq_false]
set_option maxHeartbeats 4000000 in
theorem sp_take1 (l : Launch) (G : zG) (h : zH) (f t : Nat → Int) (n : Nat) (c : Int) (hT : Tx h f t n) (hf3 : f 3 = 1) (lv : Nat) (hlv : 2 ≤ lv) : z_Sp l G mtX5_take lv 0 0 [vR 85, vI c] (sA h 85 f) (rI 0 (sA h 85 f)) := by
  have k0 := hT.1
  refine x_enter [vR 85, vI c] (by decide +kernel) (by omega) rfl (Nat.le_of_ble_eq_true rfl) ?_
  refine z_run1 tsX5_take [] 30 ?_
  simp +contextual (disch := omega) only [z_wp_s, z_wp_0, pI_e, pL_e, pO_e, pR_e, p1_I, p1_O, z_gl, z_st1, z_st2, z_nl_I, z_nl_O, z_nl_J, z_nl_L, if_true, if_false, ite_true, ite_false, true_and, and_true, List.mem_cons, List.not_mem_nil, or_false, false_or, or_self, List.length_cons, List.length_nil, InR_t, InL_t, z_ix_t, mI_s1, mI_s2, ↓brT, ↓brF, ↓brT', ↓brF', mL_sI, mR_sI, mK_sI, mS_sI, mI_sL, mL_s1, mL_s2, mR_sL, mK_sL, mS_sL, mI_sR, mL_sR, mR_s1, mR_s2, mK_sR, mS_sR, mA_s1, mA_s2, mL_sA, mR_sA, mK_sA, mS_sA, ix_n, ix_a, ix_m, ix_s, z_sw, z_stop, forall_const, true_implies, false_implies, imp_self, implies_true, not_true_eq_false, not_false_eq_true, ne_eq, eq_self, Option.some.injEq, reduceCtorEq, Nat.reduceAdd, Nat.reduceSub, Nat.reduceMul, Nat.reduceEqDiff, Nat.reduceLT, Nat.reduceLeDiff, Int.reduceAdd, Int.reduceMul, Int.reduceSub, Int.reduceNeg, Int.reduceToNat, Int.reduceLT, Int.reduceLE, Int.reduceEq, ↓reduceIte, List.reverse_cons, Option.toList, List.cons_append, List.nil_append, vI_inj, vL_inj, vO_inj, rI, rL, rO, rV, mI_sQ, mL_sQ, mK_sQ, mS_sQ, mQ_s1, mQ_s2, tlX5_take, tkX5_take, o_aload, o_dup, o_getI, o_iadd, o_ic, o_iceq, o_ifne, o_iload, o_putI, o_zret, k0, hf3]
  try simp +contextual (disch := omega) only [impF, impT, and_true, true_and, implies_true, not_false_eq_true, not_true_eq_false]
set_option maxHeartbeats 4000000 in
theorem sp_expectEnd (l : Launch) (G : zG) (h : zH) (f t : Nat → Int) (n i : Nat) (hT : Tx h f t n) (hi : f 2 = (i : Int)) (hi40 : i ≤ 40) (lv : Nat) (hlv : 1 ≤ lv) : z_Sp l G mtX5_expectEnd lv 0 0 [vR 85] (sA h 85 f) (rV (sA h 85 (if i < n then up f 3 1 else f))) := by
  obtain ⟨k0, k1, r0, r1, r2, hn, hf1, ht, hb⟩ := hT
  refine x_enter [vR 85] (by decide +kernel) (by omega) rfl (Nat.le_of_ble_eq_true rfl) ?_
  by_cases hin : i < n
  · rw [if_pos hin]
    refine z_run1 tsX5_expectEnd [] 30 ?_
    simp +contextual (disch := omega) only [z_wp_s, z_wp_0, pI_e, pL_e, pO_e, pR_e, p1_I, p1_O, z_gl, z_st1, z_st2, z_nl_I, z_nl_O, z_nl_J, z_nl_L, if_true, if_false, ite_true, ite_false, true_and, and_true, List.mem_cons, List.not_mem_nil, or_false, false_or, or_self, List.length_cons, List.length_nil, InR_t, InL_t, z_ix_t, mI_s1, mI_s2, ↓brT, ↓brF, ↓brT', ↓brF', mL_sI, mR_sI, mK_sI, mS_sI, mI_sL, mL_s1, mL_s2, mR_sL, mK_sL, mS_sL, mI_sR, mL_sR, mR_s1, mR_s2, mK_sR, mS_sR, mA_s1, mA_s2, mL_sA, mR_sA, mK_sA, mS_sA, ix_n, ix_a, ix_m, ix_s, z_sw, z_stop, forall_const, true_implies, false_implies, imp_self, implies_true, not_true_eq_false, not_false_eq_true, ne_eq, eq_self, Option.some.injEq, reduceCtorEq, Nat.reduceAdd, Nat.reduceSub, Nat.reduceMul, Nat.reduceEqDiff, Nat.reduceLT, Nat.reduceLeDiff, Int.reduceAdd, Int.reduceMul, Int.reduceSub, Int.reduceNeg, Int.reduceToNat, Int.reduceLT, Int.reduceLE, Int.reduceEq, ↓reduceIte, List.reverse_cons, Option.toList, List.cons_append, List.nil_append, vI_inj, vL_inj, vO_inj, rI, rL, rO, rV, mI_sQ, mL_sQ, mK_sQ, mS_sQ, mQ_s1, mQ_s2, tlX5_expectEnd, o_aload, o_getI, o_ic, o_icge, o_putZ, o_vret, k0, hi, hf1, sI_sA]
    try simp +contextual (disch := omega) only [impF, impT, and_true, true_and, implies_true, not_false_eq_true, not_true_eq_false]
  · rw [if_neg hin]
    refine z_run1 tsX5_expectEnd [] 30 ?_
    simp +contextual (disch := omega) only [z_wp_s, z_wp_0, pI_e, pL_e, pO_e, pR_e, p1_I, p1_O, z_gl, z_st1, z_st2, z_nl_I, z_nl_O, z_nl_J, z_nl_L, if_true, if_false, ite_true, ite_false, true_and, and_true, List.mem_cons, List.not_mem_nil, or_false, false_or, or_self, List.length_cons, List.length_nil, InR_t, InL_t, z_ix_t, mI_s1, mI_s2, ↓brT, ↓brF, ↓brT', ↓brF', mL_sI, mR_sI, mK_sI, mS_sI, mI_sL, mL_s1, mL_s2, mR_sL, mK_sL, mS_sL, mI_sR, mL_sR, mR_s1, mR_s2, mK_sR, mS_sR, mA_s1, mA_s2, mL_sA, mR_sA, mK_sA, mS_sA, ix_n, ix_a, ix_m, ix_s, z_sw, z_stop, forall_const, true_implies, false_implies, imp_self, implies_true, not_true_eq_false, not_false_eq_true, ne_eq, eq_self, Option.some.injEq, reduceCtorEq, Nat.reduceAdd, Nat.reduceSub, Nat.reduceMul, Nat.reduceEqDiff, Nat.reduceLT, Nat.reduceLeDiff, Int.reduceAdd, Int.reduceMul, Int.reduceSub, Int.reduceNeg, Int.reduceToNat, Int.reduceLT, Int.reduceLE, Int.reduceEq, ↓reduceIte, List.reverse_cons, Option.toList, List.cons_append, List.nil_append, vI_inj, vL_inj, vO_inj, rI, rL, rO, rV, mI_sQ, mL_sQ, mK_sQ, mS_sQ, mQ_s1, mQ_s2, tlX5_expectEnd, o_aload, o_getI, o_ic, o_icge, o_putZ, o_vret, k0, hi, hf1, sI_sA]
    try simp +contextual (disch := omega) only [impF, impT, and_true, true_and, implies_true, not_false_eq_true, not_true_eq_false]
set_option maxHeartbeats 4000000 in
theorem sp_start (l : Launch) (G : zG) (h : zH) (f t : Nat → Int) (n : Nat) (hT : Tx h f t n) (lv : Nat) (hlv : 2 ≤ lv) : z_Sp l G mtX5_start lv 0 0 [vR 85] (sA h 85 f) (rV (sA h 85 (up (up (up f 2 0) 3 0) 2 (sk t n 0 : Nat)))) := by
  have k0 := hT.1
  refine x_enter [vR 85] (by decide +kernel) (by omega) rfl (Nat.le_of_ble_eq_true rfl) ?_
  refine z_run1 tsX5_start [] 30 ?_
  simp +contextual (disch := omega) only [z_wp_s, z_wp_0, pI_e, pL_e, pO_e, pR_e, p1_I, p1_O, z_gl, z_st1, z_st2, z_nl_I, z_nl_O, z_nl_J, z_nl_L, if_true, if_false, ite_true, ite_false, true_and, and_true, List.mem_cons, List.not_mem_nil, or_false, false_or, or_self, List.length_cons, List.length_nil, InR_t, InL_t, z_ix_t, mI_s1, mI_s2, ↓brT, ↓brF, ↓brT', ↓brF', mL_sI, mR_sI, mK_sI, mS_sI, mI_sL, mL_s1, mL_s2, mR_sL, mK_sL, mS_sL, mI_sR, mL_sR, mR_s1, mR_s2, mK_sR, mS_sR, mA_s1, mA_s2, mL_sA, mR_sA, mK_sA, mS_sA, ix_n, ix_a, ix_m, ix_s, z_sw, z_stop, forall_const, true_implies, false_implies, imp_self, implies_true, not_true_eq_false, not_false_eq_true, ne_eq, eq_self, Option.some.injEq, reduceCtorEq, Nat.reduceAdd, Nat.reduceSub, Nat.reduceMul, Nat.reduceEqDiff, Nat.reduceLT, Nat.reduceLeDiff, Int.reduceAdd, Int.reduceMul, Int.reduceSub, Int.reduceNeg, Int.reduceToNat, Int.reduceLT, Int.reduceLE, Int.reduceEq, ↓reduceIte, List.reverse_cons, Option.toList, List.cons_append, List.nil_append, vI_inj, vL_inj, vO_inj, rI, rL, rO, rV, mI_sQ, mL_sQ, mK_sQ, mS_sQ, mQ_s1, mQ_s2, tlX5_start, tkX5_start, o_aload, o_ic, o_putI, o_putZ, o_vret, k0, sI_sA]
  try simp +contextual (disch := omega) only [impF, impT, and_true, true_and, implies_true, not_false_eq_true, not_true_eq_false]
  refine x_callV (by decide +kernel) cv_X5_87 (sp_skip l G h (up (up f 2 0) 3 0) t n 0 (hT.up (by rw [up_n _ _ (by decide), up_n _ _ (by decide)])) (by rw [up_n _ _ (by decide), up_s]; rfl) (by omega) 1 (by omega)) k0 (by omega) rfl (by omega) (by omega) rfl (Nat.le_of_ble_eq_true rfl) ?_
  rintro r h' ⟨rfl, rfl⟩
  refine z_run1 tsX5_start [] 30 ?_
  simp +contextual (disch := omega) only [z_wp_s, z_wp_0, pI_e, pL_e, pO_e, pR_e, p1_I, p1_O, z_gl, z_st1, z_st2, z_nl_I, z_nl_O, z_nl_J, z_nl_L, if_true, if_false, ite_true, ite_false, true_and, and_true, List.mem_cons, List.not_mem_nil, or_false, false_or, or_self, List.length_cons, List.length_nil, InR_t, InL_t, z_ix_t, mI_s1, mI_s2, ↓brT, ↓brF, ↓brT', ↓brF', mL_sI, mR_sI, mK_sI, mS_sI, mI_sL, mL_s1, mL_s2, mR_sL, mK_sL, mS_sL, mI_sR, mL_sR, mR_s1, mR_s2, mK_sR, mS_sR, mA_s1, mA_s2, mL_sA, mR_sA, mK_sA, mS_sA, ix_n, ix_a, ix_m, ix_s, z_sw, z_stop, forall_const, true_implies, false_implies, imp_self, implies_true, not_true_eq_false, not_false_eq_true, ne_eq, eq_self, Option.some.injEq, reduceCtorEq, Nat.reduceAdd, Nat.reduceSub, Nat.reduceMul, Nat.reduceEqDiff, Nat.reduceLT, Nat.reduceLeDiff, Int.reduceAdd, Int.reduceMul, Int.reduceSub, Int.reduceNeg, Int.reduceToNat, Int.reduceLT, Int.reduceLE, Int.reduceEq, ↓reduceIte, List.reverse_cons, Option.toList, List.cons_append, List.nil_append, vI_inj, vL_inj, vO_inj, rI, rL, rO, rV, mI_sQ, mL_sQ, mK_sQ, mS_sQ, mQ_s1, mQ_s2, tlX5_start, tkX5_start, o_aload, o_ic, o_putI, o_putZ, o_vret]
  try simp +contextual (disch := omega) only [impF, impT, and_true, true_and, implies_true, not_false_eq_true, not_true_eq_false]
