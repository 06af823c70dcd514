/-! Puzzle.impose: what the rules leave to the packages, alone and beside each other -/
def hX (z : Nat) (h : zH) (O : Int) (F : Nat → Int) : zH := (h.1, gI h, (fun b j => if b = z ∧ j = 8 then O else if b = z + 5 then F j else gL h b j), gR h)
theorem hX_I (z : Nat) (h : zH) (O : Int) (F : Nat → Int) : gI (hX z h O F) = gI h := rfl
theorem hX_R (z : Nat) (h : zH) (O : Int) (F : Nat → Int) : gR (hX z h O F) = gR h := rfl
theorem hX_K (z : Nat) (h : zH) (O : Int) (F : Nat → Int) : gK (hX z h O F) = gK h := rfl
theorem hX_S (z : Nat) (h : zH) (O : Int) (F : Nat → Int) : gS (hX z h O F) = gS h := rfl
theorem hX_L (z : Nat) (h : zH) (O : Int) (F : Nat → Int) (b j : Nat) : gL (hX z h O F) b j = if b = z ∧ j = 8 then O else if b = z + 5 then F j else gL h b j := rfl
theorem hX_o (z : Nat) (h : zH) (O : Int) (F : Nat → Int) : gL (hX z h O F) z 8 = O := by rw [hX_L, if_pos ⟨rfl, rfl⟩]
theorem hX_f (z : Nat) (h : zH) (O : Int) (F : Nat → Int) (j : Nat) : gL (hX z h O F) (z + 5) j = F j := by rw [hX_L, if_neg (by omega), if_pos rfl]
theorem hX_n (z : Nat) (h : zH) (O : Int) (F : Nat → Int) {k : Nat} (hk : k ≠ 8) : gL (hX z h O F) z k = gL h z k := by rw [hX_L, if_neg (by omega), if_neg (by omega)]
theorem hX_so (z : Nat) (h : zH) (O O' : Int) (F : Nat → Int) : sL (hX z h O F) z 8 O' = hX z h O' F := by
  refine zH_ext rfl rfl ?_ rfl
  funext b j
  rw [mL_sL, hX_L, hX_L]
  split <;> rfl
theorem hX_sf (z : Nat) (h : zH) (O w : Int) (F : Nat → Int) (k : Nat) : sL (hX z h O F) (z + 5) k w = hX z h O (up F k w) := by
  refine zH_ext rfl rfl ?_ rfl
  funext b j
  rw [mL_sL, hX_L, hX_L]
  by_cases h1 : b = z + 5
  · subst h1
    by_cases h2 : j = k
    · subst h2; simp [up]
    · simp [up, h2]
  · simp [h1]
theorem hX_self (z : Nat) (h : zH) : hX z h (gL h z 8) (gL h (z + 5)) = h := by
  refine zH_ext rfl rfl ?_ rfl
  funext b j
  rw [hX_L]
  split
  · rename_i q; rw [q.1, q.2]
  · split
    · rename_i q; rw [q]
    · rfl
theorem hX_sI (z : Nat) (h : zH) (O : Int) (F : Nat → Int) (a k : Nat) (w : Int) : sI (hX z h O F) a k w = hX z (sI h a k w) O F := rfl
theorem hX_fr (z : Nat) (h : zH) (O : Int) (F : Nat → Int) : Fr (fun c => c = z ∨ c = z + 5) h (hX z h O F) := ⟨rfl, fun a ha => ⟨rfl, by funext j; rw [hX_L, if_neg (by omega), if_neg (by omega)], rfl⟩⟩
theorem ShP.X {h : zH} {z : Nat} (hs : ShP h z) (O : Int) (F : Nat → Int) : ShP (hX z h O F) z := by
  unfold ShP at *
  rw [hX_K, hX_R]
  exact hs
theorem lb_msk {m : Int} (hm : 0 ≤ m ∧ m < 32) {k : Nat} (hk : 5 ≤ k) : lb m k = false := by
  obtain ⟨n, rfl⟩ := Int.eq_ofNat_of_zero_le hm.1
  by_cases h : k < 64
  · rw [lb_nat h]
    exact Nat.testBit_lt_two_pow (Nat.lt_of_lt_of_le (show n < 2 ^ 5 by omega) (Nat.pow_le_pow_right (by omega) hk))
  · exact lb_ge _ (by omega)
theorem spotB {m : Int} {f : Nat → Bool} (hm : msk m f) {t q w : Nat} (ht : t < 8) (hq : q < 8) (hw : w < 5) : lb (y_shl m (5 * (t : Int))) (5 * q + w) = (decide (q = t) && f w) := by
  rw [lb_shl5 _ ht (by omega)]
  by_cases h1 : q = t
  · subst h1
    rw [show 5 * q + w - 5 * q = w by omega, ← tb_lb (by omega), hm.2 w hw]
    simp
  · by_cases h2 : 5 * t ≤ 5 * q + w
    · rw [lb_msk hm.1 (by omega)]
      simp [h1]
    · simp [h1, h2]
def vio (A : zA) (r p v q w : Nat) : Bool := decide (0 ≤ rC (aR A r)) && (decide (p = rCn A r) && cB A r v && (decide (q = rTn A r) && !hB A r w))
def andS (F : Nat → Int) (b : Bool) (i : Nat) (m : Int) : Nat → Int := if b then up F i (y_and (F i) m) else F
theorem andS_b (F : Nat → Int) (b : Bool) (i : Nat) (m : Int) (k j : Nat) : lb (andS F b i m k) j = (lb (F k) j && !(b && decide (k = i) && !lb m j)) := by
  unfold andS
  cases b
  · simp
  · simp only [if_true]
    by_cases h : k = i
    · subst h; rw [up_s, lb_and]; simp
    · rw [up_n _ _ h]; simp [h]
def impG (A : zA) (r n : Nat) (F F' : Nat → Int) : Prop := ∀ p v q w, p < 8 → v < 5 → q < 8 → w < 5 → lb (F' (5 * p + v)) (5 * q + w) = (lb (F (5 * p + v)) (5 * q + w) && !(decide (v < n) && vio A r p v q w) && !(decide (v < n) && vio A r q w p v))
theorem imp_step {A : zA} {r n c t : Nat} {F F1 : Nat → Int} {cv fl : Int} (hc : c < 8) (ht : t < 8) (hn : n < 5) (hcv : msk cv (cB A r)) (hfl : msk fl (fun v => !hB A r v)) (h0 : 0 ≤ rC (aR A r)) (ec : rCn A r = c) (et : rTn A r = t) (hF : impG A r n F F1) : impG A r (n + 1) F (andS (andS F1 (cB A r n) (5 * c + n) (y_xor (y_shl fl (5 * (t : Int))) (-1))) (!hB A r n) (5 * t + n) (y_xor (y_shl cv (5 * (c : Int))) (-1))) := by
  intro p v q w hp hv hq hw
  rw [andS_b, andS_b, hF p v q w hp hv hq hw, lb_not _ (by omega), lb_not _ (by omega), spotB hfl ht hq hw, spotB hcv hc hq hw]
  unfold vio
  rw [ec, et]
  have hd0 : decide (0 ≤ rC (aR A r)) = true := by simp [h0]
  rw [hd0]
  by_cases hvn : v = n
  · subst hvn
    rw [show decide (v < v) = false by simp, show decide (v < v + 1) = true by simp, show decide (5 * p + v = 5 * c + v) = decide (p = c) by by_cases e : p = c <;> simp [e] <;> omega, show decide (5 * p + v = 5 * t + v) = decide (p = t) by by_cases e : p = t <;> simp [e] <;> omega]
    generalize decide (p = c) = b1
    generalize decide (p = t) = b2
    generalize decide (q = c) = b3
    generalize decide (q = t) = b4
    generalize cB A r v = b5
    generalize cB A r w = b6
    generalize hB A r v = b7
    generalize hB A r w = b8
    generalize lb (F (5 * p + v)) (5 * q + w) = b9
    revert b1 b2 b3 b4 b5 b6 b7 b8 b9
    decide
  · rw [show decide (5 * p + v = 5 * c + n) = false by simp; omega, show decide (5 * p + v = 5 * t + n) = false by simp; omega, show decide (v < n + 1) = decide (v < n) by by_cases e : v < n <;> simp [e] <;> omega]
    simp
theorem msk_congr {x : Int} {f g : Nat → Bool} (h : ∀ v, v < 5 → f v = g v) (hm : msk x f) : msk x g := ⟨hm.1, fun v hv => (hm.2 v hv).trans (h v hv)⟩
theorem msk_not {x : Int} {f : Nat → Bool} (hm : msk x f) : msk (z_and 31 (z_xor x (-1))) (fun v => !f v) := by
  have hub : ∀ v, v < 32 → tb (z_and 31 (z_xor x (-1))) v = (decide (v < 5) && !tb x v) := fun v hv => by rw [tb_and, tb31 v hv, tb_not _ hv]
  exact ⟨tb_small (n := 5) (by omega) (InR_and _ _) (fun i h1 h2 => by rw [hub i h2]; simp; omega), fun v hv => by rw [hub v (by omega), hm.2 v hv]; simp [hv]⟩
def imp1 (A : zA) (r : Nat) (O : Int) (F : Nat → Int) (O' : Int) (F' : Nat → Int) : Prop := InL O' ∧ (∀ p v, p < 8 → v < 5 → lb O' (5 * p + v) = (lb O (5 * p + v) && !(decide (rC (aR A r) = -1) && (decide (p = rTn A r) && !hB A r v)))) ∧ (∀ j, lb O j = false → lb O' j = false) ∧ impG A r 5 F F'
set_option maxRecDepth 4000 in
set_option maxHeartbeats 4000000 in
theorem sp_imposeRule (l : Launch) (G : zG) (h : zH) (z r : Nat) (A : zA) (O : Int) (F : Nat → Int) (hsh : ShP h z) (hD : PzR h z A r) (hru : RuA (aR A r)) (hr : r < 20) (hO : InL O) (lv : Nat) (hlv : 2 ≤ lv) : z_Sp l G mtX2_imposeRule lv 0 0 [vR z, vI r] (hX z h O F) (fun x h' => x = none ∧ ∃ O' F', h' = hX z h O' F' ∧ imp1 A r O F O' F') := by
  obtain ⟨k0, k1, k2, k3, k4, k5, r0, r1, r2, r3, r4⟩ := hsh
  obtain ⟨d1, d2, d3, d4⟩ := hD
  unfold RuA at hru
  generalize hcv : gI h (z + 2) r = cv at d2
  generalize hho : gI h (z + 4) r = ho at d4
  have hfl := msk_not d4
  have eT : rT (aR A r) = ((rTn A r : Nat) : Int) := by unfold rTn; omega
  have hT8 : rTn A r < 8 := by unfold rTn; omega
  generalize htt : rTn A r = t at eT hT8
  rw [eT] at d3
  refine x_enter [vR z, vI r, vJ, vJ, vJ, vJ, vJ, vJ, vJ, vJ, vJ] (by decide +kernel) (by omega) rfl (Nat.le_of_ble_eq_true rfl) ?_
  generalize hQ : (fun (x : Option zV) (h' : zH) => x = none ∧ ∃ O' F', h' = hX z h O' F' ∧ imp1 A r O F O' F') = QQ
  refine z_run1 tsX2_imposeRule [] 30 ?_
  simp (maxSteps := 1000000) -implicitDefEqProofs +contextual (disch := omega) only [z_wp_t, z_wp_u, ↓pI_e, ↓pL_e, ↓pO_e, ↓pR_e, ↓p1_I, ↓p1_O, z_gl, z_st1, z_st2, z_nl_I, z_nl_O, z_nl_J, z_nl_L, if_true, if_false, ite_true, ite_false, true_and, and_true, List.mem_cons, List.not_mem_nil, or_false, false_or, or_self, List.length_cons, List.length_nil, InR_t, InL_t, z_ix_t, mI_s1, mI_s2, ↓brT, ↓brF, ↓brT', ↓brF', mL_sI, mR_sI, mK_sI, mS_sI, mI_sL, mL_s1, mL_s2, mR_sL, mK_sL, mS_sL, mI_sR, mL_sR, mR_s1, mR_s2, mK_sR, mS_sR, mA_s1, mA_s2, mL_sA, mR_sA, mK_sA, mS_sA, ix_n, ix_a, ix_m, ix_s, z_sw, z_stop, forall_const, true_implies, false_implies, imp_self, implies_true, not_true_eq_false, not_false_eq_true, ne_eq, eq_self, Option.some.injEq, reduceCtorEq, Nat.reduceAdd, Nat.reduceSub, Nat.reduceMul, Nat.reduceEqDiff, Nat.reduceLT, Nat.reduceLeDiff, Int.reduceAdd, Int.reduceMul, Int.reduceSub, Int.reduceNeg, Int.reduceToNat, Int.reduceLT, Int.reduceLE, Int.reduceEq, ↓reduceIte, List.reverse_cons, Option.toList, List.cons_append, List.nil_append, vI_inj, vL_inj, vO_inj, rI, rL, rO, rV, mI_sQ, mL_sQ, mK_sQ, mS_sQ, mQ_s1, mQ_s2, iL_and, iL_or, iL_xor, iL_shl, iL_ushr, iR_and, iR_or, iR_xor, iR_shl, iR_shr, iR_ushr, iR_cmp, yc0, tlX2_imposeRule, tkX2_imposeRule, o_aload, o_dup, o_dup2, o_getL, o_getR, o_goto, o_i2l, o_iadd, o_iald, o_iand, o_ic, o_icge, o_icne, o_ifne, o_iinc, o_iload, o_imul, o_ishr, o_istore, o_ixor, o_lald, o_land, o_last, o_lc, o_lload, o_lshl, o_lstore, o_lxor, o_putL, o_vret, hX_I, hX_R, hX_K, k0, k1, k3, r0, r2, d1, d3]
  try simp +contextual (disch := omega) only [impF, impT, and_true, true_and, implies_true, not_false_eq_true, not_true_eq_false]
  refine x_callN (by decide +kernel) cv_X2_106 (sp_isPack1 l G _ t (by omega) 1 (by omega)) (by omega) rfl (by omega) (by omega) rfl (Nat.le_of_ble_eq_true rfl) ?_
  rintro r h' ⟨rfl, hE⟩
  subst h'
  refine z_run1 tsX2_imposeRule [] 40 ?_
  simp (maxSteps := 1000000) -implicitDefEqProofs +contextual (disch := omega) only [z_wp_t, z_wp_u, ↓pI_e, ↓pL_e, ↓pO_e, ↓pR_e, ↓p1_I, ↓p1_O, z_gl, z_st1, z_st2, z_nl_I, z_nl_O, z_nl_J, z_nl_L, if_true, if_false, ite_true, ite_false, true_and, and_true, List.mem_cons, List.not_mem_nil, or_false, false_or, or_self, List.length_cons, List.length_nil, InR_t, InL_t, z_ix_t, mI_s1, mI_s2, ↓brT, ↓brF, ↓brT', ↓brF', mL_sI, mR_sI, mK_sI, mS_sI, mI_sL, mL_s1, mL_s2, mR_sL, mK_sL, mS_sL, mI_sR, mL_sR, mR_s1, mR_s2, mK_sR, mS_sR, mA_s1, mA_s2, mL_sA, mR_sA, mK_sA, mS_sA, ix_n, ix_a, ix_m, ix_s, z_sw, z_stop, forall_const, true_implies, false_implies, imp_self, implies_true, not_true_eq_false, not_false_eq_true, ne_eq, eq_self, Option.some.injEq, reduceCtorEq, Nat.reduceAdd, Nat.reduceSub, Nat.reduceMul, Nat.reduceEqDiff, Nat.reduceLT, Nat.reduceLeDiff, Int.reduceAdd, Int.reduceMul, Int.reduceSub, Int.reduceNeg, Int.reduceToNat, Int.reduceLT, Int.reduceLE, Int.reduceEq, ↓reduceIte, List.reverse_cons, Option.toList, List.cons_append, List.nil_append, vI_inj, vL_inj, vO_inj, rI, rL, rO, rV, mI_sQ, mL_sQ, mK_sQ, mS_sQ, mQ_s1, mQ_s2, iL_and, iL_or, iL_xor, iL_shl, iL_ushr, iR_and, iR_or, iR_xor, iR_shl, iR_shr, iR_ushr, iR_cmp, yc0, tlX2_imposeRule, tkX2_imposeRule, o_aload, o_dup, o_dup2, o_getL, o_getR, o_goto, o_i2l, o_iadd, o_iald, o_iand, o_ic, o_icge, o_icne, o_ifne, o_iinc, o_iload, o_imul, o_ishr, o_istore, o_ixor, o_lald, o_land, o_last, o_lc, o_lload, o_lshl, o_lstore, o_lxor, o_putL, o_vret, hX_I, hX_R, hX_K, k0, k2, k4, r1, r3, hcv, hho]
  try simp +contextual (disch := omega) only [impF, impT, and_true, true_and, implies_true, not_false_eq_true, not_true_eq_false]
  by_cases hc : rC (aR A r) = -1
  · refine x_callN (by decide +kernel) cv_X2_106 (sp_isPack0 l G _ (rC (aR A r)) (by omega) (by unfold InR; omega) 1 (by omega)) (by omega) rfl (by omega) (by omega) rfl (Nat.le_of_ble_eq_true rfl) ?_
    rintro r h' ⟨rfl, hE⟩
    subst h'
    refine z_run1 tsX2_imposeRule [] 40 ?_
    simp (maxSteps := 1000000) -implicitDefEqProofs +contextual (disch := omega) only [z_wp_t, z_wp_u, ↓pI_e, ↓pL_e, ↓pO_e, ↓pR_e, ↓p1_I, ↓p1_O, z_gl, z_st1, z_st2, z_nl_I, z_nl_O, z_nl_J, z_nl_L, if_true, if_false, ite_true, ite_false, true_and, and_true, List.mem_cons, List.not_mem_nil, or_false, false_or, or_self, List.length_cons, List.length_nil, InR_t, InL_t, z_ix_t, mI_s1, mI_s2, ↓brT, ↓brF, ↓brT', ↓brF', mL_sI, mR_sI, mK_sI, mS_sI, mI_sL, mL_s1, mL_s2, mR_sL, mK_sL, mS_sL, mI_sR, mL_sR, mR_s1, mR_s2, mK_sR, mS_sR, mA_s1, mA_s2, mL_sA, mR_sA, mK_sA, mS_sA, ix_n, ix_a, ix_m, ix_s, z_sw, z_stop, forall_const, true_implies, false_implies, imp_self, implies_true, not_true_eq_false, not_false_eq_true, ne_eq, eq_self, Option.some.injEq, reduceCtorEq, Nat.reduceAdd, Nat.reduceSub, Nat.reduceMul, Nat.reduceEqDiff, Nat.reduceLT, Nat.reduceLeDiff, Int.reduceAdd, Int.reduceMul, Int.reduceSub, Int.reduceNeg, Int.reduceToNat, Int.reduceLT, Int.reduceLE, Int.reduceEq, ↓reduceIte, List.reverse_cons, Option.toList, List.cons_append, List.nil_append, vI_inj, vL_inj, vO_inj, rI, rL, rO, rV, mI_sQ, mL_sQ, mK_sQ, mS_sQ, mQ_s1, mQ_s2, iL_and, iL_or, iL_xor, iL_shl, iL_ushr, iR_and, iR_or, iR_xor, iR_shl, iR_shr, iR_ushr, iR_cmp, yc0, tlX2_imposeRule, tkX2_imposeRule, o_aload, o_dup, o_dup2, o_getL, o_getR, o_goto, o_i2l, o_iadd, o_iald, o_iand, o_ic, o_icge, o_icne, o_ifne, o_iinc, o_iload, o_imul, o_ishr, o_istore, o_ixor, o_lald, o_land, o_last, o_lc, o_lload, o_lshl, o_lstore, o_lxor, o_putL, o_vret, hX_K, k0, hX_o, hX_so]
    try simp +contextual (disch := omega) only [impF, impT, and_true, true_and, implies_true, not_false_eq_true, not_true_eq_false]
    rw [← hQ]
    refine ⟨rfl, _, F, rfl, InL_and _ _, fun p v hp hv => ?_, fun j hj => by rw [lb_and, hj]; rfl, fun p v q w hp hv hq hw => ?_⟩
    · rw [lb_and, lb_not _ (by omega), spotB hfl hT8 hp hv, htt]
      simp [hc]
    · unfold vio
      rw [show decide (0 ≤ rC (aR A r)) = false by simp; omega]
      simp
  · have eC : rC (aR A r) = ((rCn A r : Nat) : Int) := by unfold rCn; omega
    have hC8 : rCn A r < 8 := by unfold rCn; omega
    have hcv2 : msk cv (cB A r) := msk_congr (fun v hv => by simp [show 0 ≤ rC (aR A r) by omega]) d2
    generalize hcc : rCn A r = c at eC hC8
    have h0 : 0 ≤ rC (aR A r) := by omega
    rw [eC]
    refine x_callN (by decide +kernel) cv_X2_106 (sp_isPack1 l G _ c (by omega) 1 (by omega)) (by omega) rfl (by omega) (by omega) rfl (Nat.le_of_ble_eq_true rfl) ?_
    rintro r h' ⟨rfl, hE⟩
    subst h'
    have hcr := hcv2.1
    refine z_run1 tsX2_imposeRule [87] 40 ?_
    simp (maxSteps := 1000000) -implicitDefEqProofs +contextual (disch := omega) only [z_wp_t, z_wp_u, ↓pI_e, ↓pL_e, ↓pO_e, ↓pR_e, ↓p1_I, ↓p1_O, z_gl, z_st1, z_st2, z_nl_I, z_nl_O, z_nl_J, z_nl_L, if_true, if_false, ite_true, ite_false, true_and, and_true, List.mem_cons, List.not_mem_nil, or_false, false_or, or_self, List.length_cons, List.length_nil, InR_t, InL_t, z_ix_t, mI_s1, mI_s2, ↓brT, ↓brF, ↓brT', ↓brF', mL_sI, mR_sI, mK_sI, mS_sI, mI_sL, mL_s1, mL_s2, mR_sL, mK_sL, mS_sL, mI_sR, mL_sR, mR_s1, mR_s2, mK_sR, mS_sR, mA_s1, mA_s2, mL_sA, mR_sA, mK_sA, mS_sA, ix_n, ix_a, ix_m, ix_s, z_sw, z_stop, forall_const, true_implies, false_implies, imp_self, implies_true, not_true_eq_false, not_false_eq_true, ne_eq, eq_self, Option.some.injEq, reduceCtorEq, Nat.reduceAdd, Nat.reduceSub, Nat.reduceMul, Nat.reduceEqDiff, Nat.reduceLT, Nat.reduceLeDiff, Int.reduceAdd, Int.reduceMul, Int.reduceSub, Int.reduceNeg, Int.reduceToNat, Int.reduceLT, Int.reduceLE, Int.reduceEq, ↓reduceIte, List.reverse_cons, Option.toList, List.cons_append, List.nil_append, vI_inj, vL_inj, vO_inj, rI, rL, rO, rV, mI_sQ, mL_sQ, mK_sQ, mS_sQ, mQ_s1, mQ_s2, iL_and, iL_or, iL_xor, iL_shl, iL_ushr, iR_and, iR_or, iR_xor, iR_shl, iR_shr, iR_ushr, iR_cmp, yc0, tlX2_imposeRule, tkX2_imposeRule, o_aload, o_dup, o_dup2, o_getL, o_getR, o_goto, o_i2l, o_iadd, o_iald, o_iand, o_ic, o_icge, o_icne, o_ifne, o_iinc, o_iload, o_imul, o_ishr, o_istore, o_ixor, o_lald, o_land, o_last, o_lc, o_lload, o_lshl, o_lstore, o_lxor, o_putL, o_vret]
    try simp +contextual (disch := omega) only [impF, impT, and_true, true_and, implies_true, not_false_eq_true, not_true_eq_false]
    have hlo : ∀ (d n : Nat) (F1 : Nat → Int), n + d = 5 → impG A r n F F1 → z_X l G mtX2_imposeRule lv 0 0 (QQ) 0 0 (hX z h O F1) 87 [vR z, vI r, vI c, vI t, vI cv, vI (z_and 31 (z_xor ho (-1))), vL (y_shl (z_and 31 (z_xor ho (-1))) (5 * (t : Int))), vJ, vL (y_shl cv (5 * (c : Int))), vJ, vI n] [] := by
      intro d
      induction d with
      | zero =>
        intro n F1 hn hF1
        obtain rfl : n = 5 := by omega
        refine z_run1 tsX2_imposeRule [] 40 ?_
        simp (maxSteps := 1000000) -implicitDefEqProofs +contextual (disch := omega) only [z_wp_t, z_wp_u, ↓pI_e, ↓pL_e, ↓pO_e, ↓pR_e, ↓p1_I, ↓p1_O, z_gl, z_st1, z_st2, z_nl_I, z_nl_O, z_nl_J, z_nl_L, if_true, if_false, ite_true, ite_false, true_and, and_true, List.mem_cons, List.not_mem_nil, or_false, false_or, or_self, List.length_cons, List.length_nil, InR_t, InL_t, z_ix_t, mI_s1, mI_s2, ↓brT, ↓brF, ↓brT', ↓brF', mL_sI, mR_sI, mK_sI, mS_sI, mI_sL, mL_s1, mL_s2, mR_sL, mK_sL, mS_sL, mI_sR, mL_sR, mR_s1, mR_s2, mK_sR, mS_sR, mA_s1, mA_s2, mL_sA, mR_sA, mK_sA, mS_sA, ix_n, ix_a, ix_m, ix_s, z_sw, z_stop, forall_const, true_implies, false_implies, imp_self, implies_true, not_true_eq_false, not_false_eq_true, ne_eq, eq_self, Option.some.injEq, reduceCtorEq, Nat.reduceAdd, Nat.reduceSub, Nat.reduceMul, Nat.reduceEqDiff, Nat.reduceLT, Nat.reduceLeDiff, Int.reduceAdd, Int.reduceMul, Int.reduceSub, Int.reduceNeg, Int.reduceToNat, Int.reduceLT, Int.reduceLE, Int.reduceEq, ↓reduceIte, List.reverse_cons, Option.toList, List.cons_append, List.nil_append, vI_inj, vL_inj, vO_inj, rI, rL, rO, rV, mI_sQ, mL_sQ, mK_sQ, mS_sQ, mQ_s1, mQ_s2, iL_and, iL_or, iL_xor, iL_shl, iL_ushr, iR_and, iR_or, iR_xor, iR_shl, iR_shr, iR_ushr, iR_cmp, yc0, tlX2_imposeRule, tkX2_imposeRule, o_aload, o_dup, o_dup2, o_getL, o_getR, o_goto, o_i2l, o_iadd, o_iald, o_iand, o_ic, o_icge, o_icne, o_ifne, o_iinc, o_iload, o_imul, o_ishr, o_istore, o_ixor, o_lald, o_land, o_last, o_lc, o_lload, o_lshl, o_lstore, o_lxor, o_putL, o_vret]
        try simp +contextual (disch := omega) only [impF, impT, and_true, true_and, implies_true, not_false_eq_true, not_true_eq_false]
        rw [← hQ]
        refine ⟨rfl, O, F1, rfl, hO, fun p v hp hv => ?_, fun j hj => hj, hF1⟩
        simp [hc]
      | succ d ih =>
        intro n F1 hn hF1
        have b1 := z_bit cv (k := n) (by omega)
        have b2 := z_bit (z_and 31 (z_xor ho (-1))) (k := n) (by omega)
        rw [hcv2.2 n (by omega)] at b1
        rw [hfl.2 n (by omega)] at b2
        have hst := imp_step hC8 hT8 (by omega) hcv2 hfl h0 hcc htt hF1
        have hnx := ih (n + 1) _ (by omega) hst
        unfold andS at hnx
        cases e1 : cB A r n <;> cases e2 : hB A r n <;> simp only [e1, e2, Bool.not_true, Bool.not_false, Bool.false_eq_true, if_true, if_false] at b1 b2 hnx
        · refine z_run1 tsX2_imposeRule [87] 60 ?_
          simp (maxSteps := 1000000) -implicitDefEqProofs +contextual (disch := omega) only [z_wp_t, z_wp_u, ↓pI_e, ↓pL_e, ↓pO_e, ↓pR_e, ↓p1_I, ↓p1_O, z_gl, z_st1, z_st2, z_nl_I, z_nl_O, z_nl_J, z_nl_L, if_true, if_false, ite_true, ite_false, true_and, and_true, List.mem_cons, List.not_mem_nil, or_false, false_or, or_self, List.length_cons, List.length_nil, InR_t, InL_t, z_ix_t, mI_s1, mI_s2, ↓brT, ↓brF, ↓brT', ↓brF', mL_sI, mR_sI, mK_sI, mS_sI, mI_sL, mL_s1, mL_s2, mR_sL, mK_sL, mS_sL, mI_sR, mL_sR, mR_s1, mR_s2, mK_sR, mS_sR, mA_s1, mA_s2, mL_sA, mR_sA, mK_sA, mS_sA, ix_n, ix_a, ix_m, ix_s, z_sw, z_stop, forall_const, true_implies, false_implies, imp_self, implies_true, not_true_eq_false, not_false_eq_true, ne_eq, eq_self, Option.some.injEq, reduceCtorEq, Nat.reduceAdd, Nat.reduceSub, Nat.reduceMul, Nat.reduceEqDiff, Nat.reduceLT, Nat.reduceLeDiff, Int.reduceAdd, Int.reduceMul, Int.reduceSub, Int.reduceNeg, Int.reduceToNat, Int.reduceLT, Int.reduceLE, Int.reduceEq, ↓reduceIte, List.reverse_cons, Option.toList, List.cons_append, List.nil_append, vI_inj, vL_inj, vO_inj, rI, rL, rO, rV, mI_sQ, mL_sQ, mK_sQ, mS_sQ, mQ_s1, mQ_s2, iL_and, iL_or, iL_xor, iL_shl, iL_ushr, iR_and, iR_or, iR_xor, iR_shl, iR_shr, iR_ushr, iR_cmp, yc0, tlX2_imposeRule, tkX2_imposeRule, o_aload, o_dup, o_dup2, o_getL, o_getR, o_goto, o_i2l, o_iadd, o_iald, o_iand, o_ic, o_icge, o_icne, o_ifne, o_iinc, o_iload, o_imul, o_ishr, o_istore, o_ixor, o_lald, o_land, o_last, o_lc, o_lload, o_lshl, o_lstore, o_lxor, o_putL, o_vret, b1, b2, hX_K, hX_R, hX_f, hX_sf, k0, k5, r4]
          try simp +contextual (disch := omega) only [impF, impT, and_true, true_and, implies_true, not_false_eq_true, not_true_eq_false]
          exact hnx
        · refine z_run1 tsX2_imposeRule [87] 60 ?_
          simp (maxSteps := 1000000) -implicitDefEqProofs +contextual (disch := omega) only [z_wp_t, z_wp_u, ↓pI_e, ↓pL_e, ↓pO_e, ↓pR_e, ↓p1_I, ↓p1_O, z_gl, z_st1, z_st2, z_nl_I, z_nl_O, z_nl_J, z_nl_L, if_true, if_false, ite_true, ite_false, true_and, and_true, List.mem_cons, List.not_mem_nil, or_false, false_or, or_self, List.length_cons, List.length_nil, InR_t, InL_t, z_ix_t, mI_s1, mI_s2, ↓brT, ↓brF, ↓brT', ↓brF', mL_sI, mR_sI, mK_sI, mS_sI, mI_sL, mL_s1, mL_s2, mR_sL, mK_sL, mS_sL, mI_sR, mL_sR, mR_s1, mR_s2, mK_sR, mS_sR, mA_s1, mA_s2, mL_sA, mR_sA, mK_sA, mS_sA, ix_n, ix_a, ix_m, ix_s, z_sw, z_stop, forall_const, true_implies, false_implies, imp_self, implies_true, not_true_eq_false, not_false_eq_true, ne_eq, eq_self, Option.some.injEq, reduceCtorEq, Nat.reduceAdd, Nat.reduceSub, Nat.reduceMul, Nat.reduceEqDiff, Nat.reduceLT, Nat.reduceLeDiff, Int.reduceAdd, Int.reduceMul, Int.reduceSub, Int.reduceNeg, Int.reduceToNat, Int.reduceLT, Int.reduceLE, Int.reduceEq, ↓reduceIte, List.reverse_cons, Option.toList, List.cons_append, List.nil_append, vI_inj, vL_inj, vO_inj, rI, rL, rO, rV, mI_sQ, mL_sQ, mK_sQ, mS_sQ, mQ_s1, mQ_s2, iL_and, iL_or, iL_xor, iL_shl, iL_ushr, iR_and, iR_or, iR_xor, iR_shl, iR_shr, iR_ushr, iR_cmp, yc0, tlX2_imposeRule, tkX2_imposeRule, o_aload, o_dup, o_dup2, o_getL, o_getR, o_goto, o_i2l, o_iadd, o_iald, o_iand, o_ic, o_icge, o_icne, o_ifne, o_iinc, o_iload, o_imul, o_ishr, o_istore, o_ixor, o_lald, o_land, o_last, o_lc, o_lload, o_lshl, o_lstore, o_lxor, o_putL, o_vret, b1, b2, hX_K, hX_R, hX_f, hX_sf, k0, k5, r4]
          try simp +contextual (disch := omega) only [impF, impT, and_true, true_and, implies_true, not_false_eq_true, not_true_eq_false]
          exact hnx
        · refine z_run1 tsX2_imposeRule [87] 60 ?_
          simp (maxSteps := 1000000) -implicitDefEqProofs +contextual (disch := omega) only [z_wp_t, z_wp_u, ↓pI_e, ↓pL_e, ↓pO_e, ↓pR_e, ↓p1_I, ↓p1_O, z_gl, z_st1, z_st2, z_nl_I, z_nl_O, z_nl_J, z_nl_L, if_true, if_false, ite_true, ite_false, true_and, and_true, List.mem_cons, List.not_mem_nil, or_false, false_or, or_self, List.length_cons, List.length_nil, InR_t, InL_t, z_ix_t, mI_s1, mI_s2, ↓brT, ↓brF, ↓brT', ↓brF', mL_sI, mR_sI, mK_sI, mS_sI, mI_sL, mL_s1, mL_s2, mR_sL, mK_sL, mS_sL, mI_sR, mL_sR, mR_s1, mR_s2, mK_sR, mS_sR, mA_s1, mA_s2, mL_sA, mR_sA, mK_sA, mS_sA, ix_n, ix_a, ix_m, ix_s, z_sw, z_stop, forall_const, true_implies, false_implies, imp_self, implies_true, not_true_eq_false, not_false_eq_true, ne_eq, eq_self, Option.some.injEq, reduceCtorEq, Nat.reduceAdd, Nat.reduceSub, Nat.reduceMul, Nat.reduceEqDiff, Nat.reduceLT, Nat.reduceLeDiff, Int.reduceAdd, Int.reduceMul, Int.reduceSub, Int.reduceNeg, Int.reduceToNat, Int.reduceLT, Int.reduceLE, Int.reduceEq, ↓reduceIte, List.reverse_cons, Option.toList, List.cons_append, List.nil_append, vI_inj, vL_inj, vO_inj, rI, rL, rO, rV, mI_sQ, mL_sQ, mK_sQ, mS_sQ, mQ_s1, mQ_s2, iL_and, iL_or, iL_xor, iL_shl, iL_ushr, iR_and, iR_or, iR_xor, iR_shl, iR_shr, iR_ushr, iR_cmp, yc0, tlX2_imposeRule, tkX2_imposeRule, o_aload, o_dup, o_dup2, o_getL, o_getR, o_goto, o_i2l, o_iadd, o_iald, o_iand, o_ic, o_icge, o_icne, o_ifne, o_iinc, o_iload, o_imul, o_ishr, o_istore, o_ixor, o_lald, o_land, o_last, o_lc, o_lload, o_lshl, o_lstore, o_lxor, o_putL, o_vret, b1, b2, hX_K, hX_R, hX_f, hX_sf, k0, k5, r4]
          try simp +contextual (disch := omega) only [impF, impT, and_true, true_and, implies_true, not_false_eq_true, not_true_eq_false]
          exact hnx
        · refine z_run1 tsX2_imposeRule [87] 60 ?_
          simp (maxSteps := 1000000) -implicitDefEqProofs +contextual (disch := omega) only [z_wp_t, z_wp_u, ↓pI_e, ↓pL_e, ↓pO_e, ↓pR_e, ↓p1_I, ↓p1_O, z_gl, z_st1, z_st2, z_nl_I, z_nl_O, z_nl_J, z_nl_L, if_true, if_false, ite_true, ite_false, true_and, and_true, List.mem_cons, List.not_mem_nil, or_false, false_or, or_self, List.length_cons, List.length_nil, InR_t, InL_t, z_ix_t, mI_s1, mI_s2, ↓brT, ↓brF, ↓brT', ↓brF', mL_sI, mR_sI, mK_sI, mS_sI, mI_sL, mL_s1, mL_s2, mR_sL, mK_sL, mS_sL, mI_sR, mL_sR, mR_s1, mR_s2, mK_sR, mS_sR, mA_s1, mA_s2, mL_sA, mR_sA, mK_sA, mS_sA, ix_n, ix_a, ix_m, ix_s, z_sw, z_stop, forall_const, true_implies, false_implies, imp_self, implies_true, not_true_eq_false, not_false_eq_true, ne_eq, eq_self, Option.some.injEq, reduceCtorEq, Nat.reduceAdd, Nat.reduceSub, Nat.reduceMul, Nat.reduceEqDiff, Nat.reduceLT, Nat.reduceLeDiff, Int.reduceAdd, Int.reduceMul, Int.reduceSub, Int.reduceNeg, Int.reduceToNat, Int.reduceLT, Int.reduceLE, Int.reduceEq, ↓reduceIte, List.reverse_cons, Option.toList, List.cons_append, List.nil_append, vI_inj, vL_inj, vO_inj, rI, rL, rO, rV, mI_sQ, mL_sQ, mK_sQ, mS_sQ, mQ_s1, mQ_s2, iL_and, iL_or, iL_xor, iL_shl, iL_ushr, iR_and, iR_or, iR_xor, iR_shl, iR_shr, iR_ushr, iR_cmp, yc0, tlX2_imposeRule, tkX2_imposeRule, o_aload, o_dup, o_dup2, o_getL, o_getR, o_goto, o_i2l, o_iadd, o_iald, o_iand, o_ic, o_icge, o_icne, o_ifne, o_iinc, o_iload, o_imul, o_ishr, o_istore, o_ixor, o_lald, o_land, o_last, o_lc, o_lload, o_lshl, o_lstore, o_lxor, o_putL, o_vret, b1, b2, hX_K, hX_R, hX_f, hX_sf, k0, k5, r4]
          try simp +contextual (disch := omega) only [impF, impT, and_true, true_and, implies_true, not_false_eq_true, not_true_eq_false]
          exact hnx
    exact hlo 5 0 F (by omega) (fun p v q w hp hv hq hw => by simp)
theorem initF_b : ∀ s : Nat, s < 40 → ∀ j : Nat, j < 40 → lb (y_or (y_and 1099511627775 (y_xor (y_shl 31 ((5 * (s / 5) : Nat) : Int)) (-1))) (y_shl 1 (s : Int))) j = decide (j / 5 = s / 5 → j = s) := by decide +kernel
def Cm (F : Nat → Int) (t : Nat → Nat) : Prop := ∀ p, p < 8 → ∀ q, q < 8 → lb (F (5 * p + t p)) (5 * q + t q) = true
def OwnF (F : Nat → Int) : Prop := ∀ p v w, p < 8 → v < 5 → w < 5 → lb (F (5 * p + v)) (5 * p + w) = true → w = v
/-- what takeUnfit keeps -/
def tkO (O : Int) (F : Nat → Int) (O1 : Int) : Prop := InL O1 ∧ (∀ j, lb O j = false → lb O1 j = false) ∧ ∀ t, (∀ p, p < 8 → t p ≤ 4) → Lf O t → Cm F t → Lf O1 t
theorem b_one : ∀ s : Nat, s < 40 → ∀ j : Nat, j < 64 → lb (y_shl 1 (s : Int)) j = decide (j = s) := by
  intro s hs j hj
  rw [lb_shl _ (by omega), lb_1]
  by_cases h : j = s
  · subst h; simp [hj]
  · simp [h]; omega
theorem bitN0 {O : Int} {s : Nat} (hs : s < 40) : y_and O (y_shl 1 (s : Int)) = 0 ↔ lb O s = false := by
  rw [lb_zero (InL_and _ _)]
  constructor
  · intro h
    have := h s (by omega)
    rw [lb_and, b_one s hs _ (by omega)] at this
    simpa using this
  · intro h i hi
    rw [lb_and, b_one s hs i hi]
    by_cases e : i = s
    · rw [e, h]; rfl
    · simp [e]
theorem tk_step {O O1 : Int} {F : Nat → Int} {p v : Nat} (hp : p < 8) (hv : v < 5) (h : tkO O F O1) (hn : ¬ ∀ q, q < 8 → pk (y_and O1 (F (5 * p + v))) q = true) : tkO O F (y_and O1 (y_xor (y_shl 1 ((5 * p + v : Nat) : Int)) (-1))) := by
  obtain ⟨h1, h2, h3⟩ := h
  refine ⟨InL_and _ _, fun j hj => by rw [lb_and, h2 j hj]; rfl, fun t h4 hl hc => ?_⟩
  have hl1 := h3 t h4 hl hc
  intro q hq
  have := h4 q hq
  rw [lb_and, hl1 q hq, lb_not _ (by omega), b_one _ (by omega) _ (by omega)]
  by_cases e : 5 * q + t q = 5 * p + v
  · exfalso
    have e1 : q = p := by omega
    have e2 : t p = v := by rw [← e1]; omega
    apply hn
    intro u hu
    refine pk_iff.mpr ⟨t u, by have := h4 u hu; omega, ?_⟩
    have := hc p hp u hu
    rw [e2] at this
    rw [lb_and, hl1 u hu, this]
    rfl
  · simp [e]
theorem tk_own {O1 : Int} {F : Nat → Int} {p v : Nat} (hp : p < 8) (hv : v < 5) (hF : OwnF F) (hn : ∀ q, q < 8 → pk (y_and O1 (F (5 * p + v))) q = true) : lb (F (5 * p + v)) (5 * p + v) = true := by
  obtain ⟨w, h1, h2⟩ := pk_iff.mp (hn p hp)
  rw [lb_and] at h2
  simp at h2
  have := hF p v w hp hv h1 h2.2
  rw [this] at h2
  exact h2.2
set_option maxHeartbeats 4000000 in
theorem sp_takeUnfit (l : Launch) (G : zG) (h : zH) (z : Nat) (O : Int) (F : Nat → Int) (hsh : ShP h z) (hO : InL O) (hF : OwnF F) (lv : Nat) (hlv : 2 ≤ lv) : z_Sp l G mtX2_takeUnfit lv 0 0 [vR z] (hX z h O F) (fun x h' => x = none ∧ ∃ O', h' = hX z h O' F ∧ tkO O F O' ∧ ∀ p v, p < 8 → v < 5 → lb O' (5 * p + v) = true → lb (F (5 * p + v)) (5 * p + v) = true) := by
  obtain ⟨k0, k1, k2, k3, k4, k5, r0, r1, r2, r3, r4⟩ := hsh
  refine x_enter [vR z, vJ, vJ, vJ, vJ, vJ] (by decide +kernel) (by omega) rfl (Nat.le_of_ble_eq_true rfl) ?_
  generalize hQ : (fun (x : Option zV) (h' : zH) => x = none ∧ ∃ O', h' = hX z h O' F ∧ tkO O F O' ∧ ∀ p v, p < 8 → v < 5 → lb O' (5 * p + v) = true → lb (F (5 * p + v)) (5 * p + v) = true) = QQ
  have outer : ∀ (d i : Nat) (tk : Int) (O1 : Int), i + d = 41 → (tk = 0 ∨ tk = 1) → tkO O F O1 → (i = 0 → tk = 1) → (1 ≤ i → ∀ p v, p < 8 → v < 5 → lb O1 (5 * p + v) = true → lb (F (5 * p + v)) (5 * p + v) = true) → z_X l G mtX2_takeUnfit lv 0 0 (QQ) 0 0 (hX z h O1 F) 4 [vR z, vI tk, vI i, vJ, vJ, vJ] [] := by
    intro d
    induction d with
    | zero =>
      intro i tk O1 hi htk hO1 h0 h1
      refine z_run1 tsX2_takeUnfit [] 20 ?_
      simp (maxSteps := 1000000) -implicitDefEqProofs +contextual (disch := omega) only [z_wp_t, z_wp_u, ↓pI_e, ↓pL_e, ↓pO_e, ↓pR_e, ↓p1_I, ↓p1_O, z_gl, z_st1, z_st2, z_nl_I, z_nl_O, z_nl_J, z_nl_L, if_true, if_false, ite_true, ite_false, true_and, and_true, List.mem_cons, List.not_mem_nil, or_false, false_or, or_self, List.length_cons, List.length_nil, InR_t, InL_t, z_ix_t, mI_s1, mI_s2, ↓brT, ↓brF, ↓brT', ↓brF', mL_sI, mR_sI, mK_sI, mS_sI, mI_sL, mL_s1, mL_s2, mR_sL, mK_sL, mS_sL, mI_sR, mL_sR, mR_s1, mR_s2, mK_sR, mS_sR, mA_s1, mA_s2, mL_sA, mR_sA, mK_sA, mS_sA, ix_n, ix_a, ix_m, ix_s, z_sw, z_stop, forall_const, true_implies, false_implies, imp_self, implies_true, not_true_eq_false, not_false_eq_true, ne_eq, eq_self, Option.some.injEq, reduceCtorEq, Nat.reduceAdd, Nat.reduceSub, Nat.reduceMul, Nat.reduceEqDiff, Nat.reduceLT, Nat.reduceLeDiff, Int.reduceAdd, Int.reduceMul, Int.reduceSub, Int.reduceNeg, Int.reduceToNat, Int.reduceLT, Int.reduceLE, Int.reduceEq, ↓reduceIte, List.reverse_cons, Option.toList, List.cons_append, List.nil_append, vI_inj, vL_inj, vO_inj, rI, rL, rO, rV, mI_sQ, mL_sQ, mK_sQ, mS_sQ, mQ_s1, mQ_s2, iL_and, iL_or, iL_xor, iL_shl, iL_ushr, iR_and, iR_or, iR_xor, iR_shl, iR_shr, iR_ushr, iR_cmp, yc0, tlX2_takeUnfit, tkX2_takeUnfit, o_aload, o_dup, o_getL, o_getR, o_goto, o_ic, o_icge, o_icgt, o_ifeq, o_iinc, o_iload, o_istore, o_lald, o_land, o_lc, o_lcmp, o_lload, o_lshl, o_lstore, o_lxor, o_putL, o_vret]
      try simp +contextual (disch := omega) only [impF, impT, and_true, true_and, implies_true, not_false_eq_true, not_true_eq_false]
      rw [← hQ]
      exact ⟨rfl, O1, rfl, hO1, h1 (by omega)⟩
    | succ d ih =>
      intro i tk O1 hi htk hO1 h0 h1
      by_cases ht0 : tk = 0
      · subst ht0
        refine z_run1 tsX2_takeUnfit [] 20 ?_
        simp (maxSteps := 1000000) -implicitDefEqProofs +contextual (disch := omega) only [z_wp_t, z_wp_u, ↓pI_e, ↓pL_e, ↓pO_e, ↓pR_e, ↓p1_I, ↓p1_O, z_gl, z_st1, z_st2, z_nl_I, z_nl_O, z_nl_J, z_nl_L, if_true, if_false, ite_true, ite_false, true_and, and_true, List.mem_cons, List.not_mem_nil, or_false, false_or, or_self, List.length_cons, List.length_nil, InR_t, InL_t, z_ix_t, mI_s1, mI_s2, ↓brT, ↓brF, ↓brT', ↓brF', mL_sI, mR_sI, mK_sI, mS_sI, mI_sL, mL_s1, mL_s2, mR_sL, mK_sL, mS_sL, mI_sR, mL_sR, mR_s1, mR_s2, mK_sR, mS_sR, mA_s1, mA_s2, mL_sA, mR_sA, mK_sA, mS_sA, ix_n, ix_a, ix_m, ix_s, z_sw, z_stop, forall_const, true_implies, false_implies, imp_self, implies_true, not_true_eq_false, not_false_eq_true, ne_eq, eq_self, Option.some.injEq, reduceCtorEq, Nat.reduceAdd, Nat.reduceSub, Nat.reduceMul, Nat.reduceEqDiff, Nat.reduceLT, Nat.reduceLeDiff, Int.reduceAdd, Int.reduceMul, Int.reduceSub, Int.reduceNeg, Int.reduceToNat, Int.reduceLT, Int.reduceLE, Int.reduceEq, ↓reduceIte, List.reverse_cons, Option.toList, List.cons_append, List.nil_append, vI_inj, vL_inj, vO_inj, rI, rL, rO, rV, mI_sQ, mL_sQ, mK_sQ, mS_sQ, mQ_s1, mQ_s2, iL_and, iL_or, iL_xor, iL_shl, iL_ushr, iR_and, iR_or, iR_xor, iR_shl, iR_shr, iR_ushr, iR_cmp, yc0, tlX2_takeUnfit, tkX2_takeUnfit, o_aload, o_dup, o_getL, o_getR, o_goto, o_ic, o_icge, o_icgt, o_ifeq, o_iinc, o_iload, o_istore, o_lald, o_land, o_lc, o_lcmp, o_lload, o_lshl, o_lstore, o_lxor, o_putL, o_vret]
        try simp +contextual (disch := omega) only [impF, impT, and_true, true_and, implies_true, not_false_eq_true, not_true_eq_false]
        rw [← hQ]
        exact ⟨rfl, O1, rfl, hO1, h1 (by omega)⟩
      · obtain rfl : tk = 1 := by omega
        have inner : ∀ (e s : Nat) (tk : Int) (O1 : Int), s + e = 40 → (tk = 0 ∨ tk = 1) → tkO O F O1 → (∀ p v, p < 8 → v < 5 → 5 * p + v < s → lb O1 (5 * p + v) = true → lb (F (5 * p + v)) (5 * p + v) = true) → z_X l G mtX2_takeUnfit lv 0 0 (QQ) 0 0 (hX z h O1 F) 18 [vR z, vI tk, vI i, vI s, vJ, vJ] [] := by
          intro e
          induction e with
          | zero =>
            intro s tk O1 hs htk hO1 hown
            have hnx := ih (i + 1) tk O1 (by omega) htk hO1 (by omega) (fun _ p v hp hv => hown p v hp hv (by omega))
            refine z_run1 tsX2_takeUnfit [4] 20 ?_
            simp (maxSteps := 1000000) -implicitDefEqProofs +contextual (disch := omega) only [z_wp_t, z_wp_u, ↓pI_e, ↓pL_e, ↓pO_e, ↓pR_e, ↓p1_I, ↓p1_O, z_gl, z_st1, z_st2, z_nl_I, z_nl_O, z_nl_J, z_nl_L, if_true, if_false, ite_true, ite_false, true_and, and_true, List.mem_cons, List.not_mem_nil, or_false, false_or, or_self, List.length_cons, List.length_nil, InR_t, InL_t, z_ix_t, mI_s1, mI_s2, ↓brT, ↓brF, ↓brT', ↓brF', mL_sI, mR_sI, mK_sI, mS_sI, mI_sL, mL_s1, mL_s2, mR_sL, mK_sL, mS_sL, mI_sR, mL_sR, mR_s1, mR_s2, mK_sR, mS_sR, mA_s1, mA_s2, mL_sA, mR_sA, mK_sA, mS_sA, ix_n, ix_a, ix_m, ix_s, z_sw, z_stop, forall_const, true_implies, false_implies, imp_self, implies_true, not_true_eq_false, not_false_eq_true, ne_eq, eq_self, Option.some.injEq, reduceCtorEq, Nat.reduceAdd, Nat.reduceSub, Nat.reduceMul, Nat.reduceEqDiff, Nat.reduceLT, Nat.reduceLeDiff, Int.reduceAdd, Int.reduceMul, Int.reduceSub, Int.reduceNeg, Int.reduceToNat, Int.reduceLT, Int.reduceLE, Int.reduceEq, ↓reduceIte, List.reverse_cons, Option.toList, List.cons_append, List.nil_append, vI_inj, vL_inj, vO_inj, rI, rL, rO, rV, mI_sQ, mL_sQ, mK_sQ, mS_sQ, mQ_s1, mQ_s2, iL_and, iL_or, iL_xor, iL_shl, iL_ushr, iR_and, iR_or, iR_xor, iR_shl, iR_shr, iR_ushr, iR_cmp, yc0, tlX2_takeUnfit, tkX2_takeUnfit, o_aload, o_dup, o_getL, o_getR, o_goto, o_ic, o_icge, o_icgt, o_ifeq, o_iinc, o_iload, o_istore, o_lald, o_land, o_lc, o_lcmp, o_lload, o_lshl, o_lstore, o_lxor, o_putL, o_vret]
            try simp +contextual (disch := omega) only [impF, impT, and_true, true_and, implies_true, not_false_eq_true, not_true_eq_false]
            refine x_wk [vR z, vI tk, vI ((i + 1 : Nat) : Int), vJ, vJ, vJ] (by simp [z_wk]) ?_
            exact hnx
          | succ e ihe =>
            intro s tk O1 hs htk hO1 hown
            obtain ⟨p, v, hp, hv, rfl⟩ : ∃ p v, p < 8 ∧ v < 5 ∧ s = 5 * p + v := ⟨s / 5, s % 5, by omega, by omega, by omega⟩
            have keep : ∀ (tk2 : Int) (O2 : Int), (tk2 = 0 ∨ tk2 = 1) → tkO O F O2 → (∀ j, lb O1 j = false → lb O2 j = false) → (lb O2 (5 * p + v) = true → lb (F (5 * p + v)) (5 * p + v) = true) → z_X l G mtX2_takeUnfit lv 0 0 (QQ) 0 0 (hX z h O2 F) 79 [vR z, vI tk2, vI i, vI ((5 * p + v : Nat) : Int), vJ, vJ] [] := by
              intro tk2 O2 htk2 hO2 hsub hown2
              have hnx := ihe (5 * p + v + 1) tk2 O2 (by omega) htk2 hO2 (fun p' v' hp' hv' hlt hb => by
                by_cases e2 : 5 * p' + v' = 5 * p + v
                · obtain rfl : p' = p := by omega
                  obtain rfl : v' = v := by omega
                  exact hown2 hb
                · refine hown p' v' hp' hv' (by omega) ?_
                  cases hq : lb O1 (5 * p' + v')
                  · rw [hsub _ hq] at hb; cases hb
                  · rfl)
              refine z_run1 tsX2_takeUnfit [18] 20 ?_
              simp (maxSteps := 1000000) -implicitDefEqProofs +contextual (disch := omega) only [z_wp_t, z_wp_u, ↓pI_e, ↓pL_e, ↓pO_e, ↓pR_e, ↓p1_I, ↓p1_O, z_gl, z_st1, z_st2, z_nl_I, z_nl_O, z_nl_J, z_nl_L, if_true, if_false, ite_true, ite_false, true_and, and_true, List.mem_cons, List.not_mem_nil, or_false, false_or, or_self, List.length_cons, List.length_nil, InR_t, InL_t, z_ix_t, mI_s1, mI_s2, ↓brT, ↓brF, ↓brT', ↓brF', mL_sI, mR_sI, mK_sI, mS_sI, mI_sL, mL_s1, mL_s2, mR_sL, mK_sL, mS_sL, mI_sR, mL_sR, mR_s1, mR_s2, mK_sR, mS_sR, mA_s1, mA_s2, mL_sA, mR_sA, mK_sA, mS_sA, ix_n, ix_a, ix_m, ix_s, z_sw, z_stop, forall_const, true_implies, false_implies, imp_self, implies_true, not_true_eq_false, not_false_eq_true, ne_eq, eq_self, Option.some.injEq, reduceCtorEq, Nat.reduceAdd, Nat.reduceSub, Nat.reduceMul, Nat.reduceEqDiff, Nat.reduceLT, Nat.reduceLeDiff, Int.reduceAdd, Int.reduceMul, Int.reduceSub, Int.reduceNeg, Int.reduceToNat, Int.reduceLT, Int.reduceLE, Int.reduceEq, ↓reduceIte, List.reverse_cons, Option.toList, List.cons_append, List.nil_append, vI_inj, vL_inj, vO_inj, rI, rL, rO, rV, mI_sQ, mL_sQ, mK_sQ, mS_sQ, mQ_s1, mQ_s2, iL_and, iL_or, iL_xor, iL_shl, iL_ushr, iR_and, iR_or, iR_xor, iR_shl, iR_shr, iR_ushr, iR_cmp, yc0, tlX2_takeUnfit, tkX2_takeUnfit, o_aload, o_dup, o_getL, o_getR, o_goto, o_ic, o_icge, o_icgt, o_ifeq, o_iinc, o_iload, o_istore, o_lald, o_land, o_lc, o_lcmp, o_lload, o_lshl, o_lstore, o_lxor, o_putL, o_vret]
              try simp +contextual (disch := omega) only [impF, impT, and_true, true_and, implies_true, not_false_eq_true, not_true_eq_false]
              refine x_wk [vR z, vI tk2, vI i, vI ((5 * p + v + 1 : Nat) : Int), vJ, vJ] (by simp [z_wk]) ?_
              exact hnx
            have hb0 := bitN0 (O := O1) (s := 5 * p + v) (by omega)
            generalize hss : 5 * p + v = s at *
            have hs40 : s < 40 := by omega
            cases hb : lb O1 s
            · have hz0 := hb0.mpr hb
              refine z_run1 tsX2_takeUnfit [79] 30 ?_
              simp (maxSteps := 1000000) -implicitDefEqProofs +contextual (disch := omega) only [z_wp_t, z_wp_u, ↓pI_e, ↓pL_e, ↓pO_e, ↓pR_e, ↓p1_I, ↓p1_O, z_gl, z_st1, z_st2, z_nl_I, z_nl_O, z_nl_J, z_nl_L, if_true, if_false, ite_true, ite_false, true_and, and_true, List.mem_cons, List.not_mem_nil, or_false, false_or, or_self, List.length_cons, List.length_nil, InR_t, InL_t, z_ix_t, mI_s1, mI_s2, ↓brT, ↓brF, ↓brT', ↓brF', mL_sI, mR_sI, mK_sI, mS_sI, mI_sL, mL_s1, mL_s2, mR_sL, mK_sL, mS_sL, mI_sR, mL_sR, mR_s1, mR_s2, mK_sR, mS_sR, mA_s1, mA_s2, mL_sA, mR_sA, mK_sA, mS_sA, ix_n, ix_a, ix_m, ix_s, z_sw, z_stop, forall_const, true_implies, false_implies, imp_self, implies_true, not_true_eq_false, not_false_eq_true, ne_eq, eq_self, Option.some.injEq, reduceCtorEq, Nat.reduceAdd, Nat.reduceSub, Nat.reduceMul, Nat.reduceEqDiff, Nat.reduceLT, Nat.reduceLeDiff, Int.reduceAdd, Int.reduceMul, Int.reduceSub, Int.reduceNeg, Int.reduceToNat, Int.reduceLT, Int.reduceLE, Int.reduceEq, ↓reduceIte, List.reverse_cons, Option.toList, List.cons_append, List.nil_append, vI_inj, vL_inj, vO_inj, rI, rL, rO, rV, mI_sQ, mL_sQ, mK_sQ, mS_sQ, mQ_s1, mQ_s2, iL_and, iL_or, iL_xor, iL_shl, iL_ushr, iR_and, iR_or, iR_xor, iR_shl, iR_shr, iR_ushr, iR_cmp, yc0, tlX2_takeUnfit, tkX2_takeUnfit, o_aload, o_dup, o_getL, o_getR, o_goto, o_ic, o_icge, o_icgt, o_ifeq, o_iinc, o_iload, o_istore, o_lald, o_land, o_lc, o_lcmp, o_lload, o_lshl, o_lstore, o_lxor, o_putL, o_vret, hX_K, k0, hX_o, hz0]
              try simp +contextual (disch := omega) only [impF, impT, and_true, true_and, implies_true, not_false_eq_true, not_true_eq_false]
              refine x_wk [vR z, vI tk, vI i, vI (s : Int), vJ, vJ] (by simp [z_wk]) ?_
              exact keep tk O1 htk hO1 (fun j hj => hj) (fun q => by rw [hb] at q; cases q)
            · have hz0 : ¬ y_and O1 (y_shl 1 (s : Int)) = 0 := fun q => by rw [hb0.mp q] at hb; cases hb
              refine z_run1 tsX2_takeUnfit [] 30 ?_
              simp (maxSteps := 1000000) -implicitDefEqProofs +contextual (disch := omega) only [z_wp_t, z_wp_u, ↓pI_e, ↓pL_e, ↓pO_e, ↓pR_e, ↓p1_I, ↓p1_O, z_gl, z_st1, z_st2, z_nl_I, z_nl_O, z_nl_J, z_nl_L, if_true, if_false, ite_true, ite_false, true_and, and_true, List.mem_cons, List.not_mem_nil, or_false, false_or, or_self, List.length_cons, List.length_nil, InR_t, InL_t, z_ix_t, mI_s1, mI_s2, ↓brT, ↓brF, ↓brT', ↓brF', mL_sI, mR_sI, mK_sI, mS_sI, mI_sL, mL_s1, mL_s2, mR_sL, mK_sL, mS_sL, mI_sR, mL_sR, mR_s1, mR_s2, mK_sR, mS_sR, mA_s1, mA_s2, mL_sA, mR_sA, mK_sA, mS_sA, ix_n, ix_a, ix_m, ix_s, z_sw, z_stop, forall_const, true_implies, false_implies, imp_self, implies_true, not_true_eq_false, not_false_eq_true, ne_eq, eq_self, Option.some.injEq, reduceCtorEq, Nat.reduceAdd, Nat.reduceSub, Nat.reduceMul, Nat.reduceEqDiff, Nat.reduceLT, Nat.reduceLeDiff, Int.reduceAdd, Int.reduceMul, Int.reduceSub, Int.reduceNeg, Int.reduceToNat, Int.reduceLT, Int.reduceLE, Int.reduceEq, ↓reduceIte, List.reverse_cons, Option.toList, List.cons_append, List.nil_append, vI_inj, vL_inj, vO_inj, rI, rL, rO, rV, mI_sQ, mL_sQ, mK_sQ, mS_sQ, mQ_s1, mQ_s2, iL_and, iL_or, iL_xor, iL_shl, iL_ushr, iR_and, iR_or, iR_xor, iR_shl, iR_shr, iR_ushr, iR_cmp, yc0, tlX2_takeUnfit, tkX2_takeUnfit, o_aload, o_dup, o_getL, o_getR, o_goto, o_ic, o_icge, o_icgt, o_ifeq, o_iinc, o_iload, o_istore, o_lald, o_land, o_lc, o_lcmp, o_lload, o_lshl, o_lstore, o_lxor, o_putL, o_vret, hX_K, hX_R, k0, k5, r4, hX_o, hX_f, hz0]
              try simp +contextual (disch := omega) only [impF, impT, and_true, true_and, implies_true, not_false_eq_true, not_true_eq_false]
              refine x_callS (by decide +kernel) cv_X2_110 (sp_packsOf l G _ (y_and O1 (F s)) 1 (by omega)) (by omega) rfl (by omega) (by omega) rfl (Nat.le_of_ble_eq_true rfl) ?_
              rintro r h' ⟨rfl, hE⟩
              subst h'
              by_cases hpk : ∀ q, q < 8 → pk (y_and O1 (F s)) q = true
              · have hpe := pkL_eq.mpr hpk
                refine z_run1 tsX2_takeUnfit [79] 30 ?_
                simp (maxSteps := 1000000) -implicitDefEqProofs +contextual (disch := omega) only [z_wp_t, z_wp_u, ↓pI_e, ↓pL_e, ↓pO_e, ↓pR_e, ↓p1_I, ↓p1_O, z_gl, z_st1, z_st2, z_nl_I, z_nl_O, z_nl_J, z_nl_L, if_true, if_false, ite_true, ite_false, true_and, and_true, List.mem_cons, List.not_mem_nil, or_false, false_or, or_self, List.length_cons, List.length_nil, InR_t, InL_t, z_ix_t, mI_s1, mI_s2, ↓brT, ↓brF, ↓brT', ↓brF', mL_sI, mR_sI, mK_sI, mS_sI, mI_sL, mL_s1, mL_s2, mR_sL, mK_sL, mS_sL, mI_sR, mL_sR, mR_s1, mR_s2, mK_sR, mS_sR, mA_s1, mA_s2, mL_sA, mR_sA, mK_sA, mS_sA, ix_n, ix_a, ix_m, ix_s, z_sw, z_stop, forall_const, true_implies, false_implies, imp_self, implies_true, not_true_eq_false, not_false_eq_true, ne_eq, eq_self, Option.some.injEq, reduceCtorEq, Nat.reduceAdd, Nat.reduceSub, Nat.reduceMul, Nat.reduceEqDiff, Nat.reduceLT, Nat.reduceLeDiff, Int.reduceAdd, Int.reduceMul, Int.reduceSub, Int.reduceNeg, Int.reduceToNat, Int.reduceLT, Int.reduceLE, Int.reduceEq, ↓reduceIte, List.reverse_cons, Option.toList, List.cons_append, List.nil_append, vI_inj, vL_inj, vO_inj, rI, rL, rO, rV, mI_sQ, mL_sQ, mK_sQ, mS_sQ, mQ_s1, mQ_s2, iL_and, iL_or, iL_xor, iL_shl, iL_ushr, iR_and, iR_or, iR_xor, iR_shl, iR_shr, iR_ushr, iR_cmp, yc0, tlX2_takeUnfit, tkX2_takeUnfit, o_aload, o_dup, o_getL, o_getR, o_goto, o_ic, o_icge, o_icgt, o_ifeq, o_iinc, o_iload, o_istore, o_lald, o_land, o_lc, o_lcmp, o_lload, o_lshl, o_lstore, o_lxor, o_putL, o_vret, hpe]
                try simp +contextual (disch := omega) only [impF, impT, and_true, true_and, implies_true, not_false_eq_true, not_true_eq_false]
                refine x_wk [vR z, vI tk, vI i, vI (s : Int), vJ, vJ] (by simp [z_wk]) ?_
                refine keep tk O1 htk hO1 (fun j hj => hj) (fun q => ?_)
                rw [← hss] at hpk ⊢
                exact tk_own hp hv hF hpk
              · have hpe : ¬ pkL (y_and O1 (F s)) = 35468117025 := fun q => hpk (pkL_eq.mp q)
                have hpkL := pkL_L (y_and O1 (F s))
                refine z_run1 tsX2_takeUnfit [79] 30 ?_
                simp (maxSteps := 1000000) -implicitDefEqProofs +contextual (disch := omega) only [z_wp_t, z_wp_u, ↓pI_e, ↓pL_e, ↓pO_e, ↓pR_e, ↓p1_I, ↓p1_O, z_gl, z_st1, z_st2, z_nl_I, z_nl_O, z_nl_J, z_nl_L, if_true, if_false, ite_true, ite_false, true_and, and_true, List.mem_cons, List.not_mem_nil, or_false, false_or, or_self, List.length_cons, List.length_nil, InR_t, InL_t, z_ix_t, mI_s1, mI_s2, ↓brT, ↓brF, ↓brT', ↓brF', mL_sI, mR_sI, mK_sI, mS_sI, mI_sL, mL_s1, mL_s2, mR_sL, mK_sL, mS_sL, mI_sR, mL_sR, mR_s1, mR_s2, mK_sR, mS_sR, mA_s1, mA_s2, mL_sA, mR_sA, mK_sA, mS_sA, ix_n, ix_a, ix_m, ix_s, z_sw, z_stop, forall_const, true_implies, false_implies, imp_self, implies_true, not_true_eq_false, not_false_eq_true, ne_eq, eq_self, Option.some.injEq, reduceCtorEq, Nat.reduceAdd, Nat.reduceSub, Nat.reduceMul, Nat.reduceEqDiff, Nat.reduceLT, Nat.reduceLeDiff, Int.reduceAdd, Int.reduceMul, Int.reduceSub, Int.reduceNeg, Int.reduceToNat, Int.reduceLT, Int.reduceLE, Int.reduceEq, ↓reduceIte, List.reverse_cons, Option.toList, List.cons_append, List.nil_append, vI_inj, vL_inj, vO_inj, rI, rL, rO, rV, mI_sQ, mL_sQ, mK_sQ, mS_sQ, mQ_s1, mQ_s2, iL_and, iL_or, iL_xor, iL_shl, iL_ushr, iR_and, iR_or, iR_xor, iR_shl, iR_shr, iR_ushr, iR_cmp, yc0, tlX2_takeUnfit, tkX2_takeUnfit, o_aload, o_dup, o_getL, o_getR, o_goto, o_ic, o_icge, o_icgt, o_ifeq, o_iinc, o_iload, o_istore, o_lald, o_land, o_lc, o_lcmp, o_lload, o_lshl, o_lstore, o_lxor, o_putL, o_vret, hpe, hpkL, hX_K, k0, hX_o, hX_so]
                try simp +contextual (disch := omega) only [impF, impT, and_true, true_and, implies_true, not_false_eq_true, not_true_eq_false]
                refine x_wk [vR z, vI 1, vI i, vI (s : Int), vJ, vJ] (by simp [z_wk]) ?_
                refine keep 1 _ (Or.inr rfl) ?_ (fun j hj => by rw [lb_and, hj]; rfl) (fun q => ?_)
                · rw [← hss] at hpk ⊢
                  exact tk_step hp hv hO1 hpk
                · rw [lb_and, lb_not _ (by omega), b_one s hs40 _ (by omega)] at q
                  simp at q
        have hnx := inner 40 0 0 O1 (by omega) (Or.inl rfl) hO1 (fun p v hp hv h => by omega)
        refine z_run1 tsX2_takeUnfit [18] 20 ?_
        simp (maxSteps := 1000000) -implicitDefEqProofs +contextual (disch := omega) only [z_wp_t, z_wp_u, ↓pI_e, ↓pL_e, ↓pO_e, ↓pR_e, ↓p1_I, ↓p1_O, z_gl, z_st1, z_st2, z_nl_I, z_nl_O, z_nl_J, z_nl_L, if_true, if_false, ite_true, ite_false, true_and, and_true, List.mem_cons, List.not_mem_nil, or_false, false_or, or_self, List.length_cons, List.length_nil, InR_t, InL_t, z_ix_t, mI_s1, mI_s2, ↓brT, ↓brF, ↓brT', ↓brF', mL_sI, mR_sI, mK_sI, mS_sI, mI_sL, mL_s1, mL_s2, mR_sL, mK_sL, mS_sL, mI_sR, mL_sR, mR_s1, mR_s2, mK_sR, mS_sR, mA_s1, mA_s2, mL_sA, mR_sA, mK_sA, mS_sA, ix_n, ix_a, ix_m, ix_s, z_sw, z_stop, forall_const, true_implies, false_implies, imp_self, implies_true, not_true_eq_false, not_false_eq_true, ne_eq, eq_self, Option.some.injEq, reduceCtorEq, Nat.reduceAdd, Nat.reduceSub, Nat.reduceMul, Nat.reduceEqDiff, Nat.reduceLT, Nat.reduceLeDiff, Int.reduceAdd, Int.reduceMul, Int.reduceSub, Int.reduceNeg, Int.reduceToNat, Int.reduceLT, Int.reduceLE, Int.reduceEq, ↓reduceIte, List.reverse_cons, Option.toList, List.cons_append, List.nil_append, vI_inj, vL_inj, vO_inj, rI, rL, rO, rV, mI_sQ, mL_sQ, mK_sQ, mS_sQ, mQ_s1, mQ_s2, iL_and, iL_or, iL_xor, iL_shl, iL_ushr, iR_and, iR_or, iR_xor, iR_shl, iR_shr, iR_ushr, iR_cmp, yc0, tlX2_takeUnfit, tkX2_takeUnfit, o_aload, o_dup, o_getL, o_getR, o_goto, o_ic, o_icge, o_icgt, o_ifeq, o_iinc, o_iload, o_istore, o_lald, o_land, o_lc, o_lcmp, o_lload, o_lshl, o_lstore, o_lxor, o_putL, o_vret]
        try simp +contextual (disch := omega) only [impF, impT, and_true, true_and, implies_true, not_false_eq_true, not_true_eq_false]
        exact hnx
  have h0 := outer 41 0 1 O (by omega) (Or.inr rfl) ⟨hO, fun j hj => hj, fun t _ hl _ => hl⟩ (fun _ => rfl) (fun h => by omega)
  refine z_run1 tsX2_takeUnfit [4] 20 ?_
  simp (maxSteps := 1000000) -implicitDefEqProofs +contextual (disch := omega) only [z_wp_t, z_wp_u, ↓pI_e, ↓pL_e, ↓pO_e, ↓pR_e, ↓p1_I, ↓p1_O, z_gl, z_st1, z_st2, z_nl_I, z_nl_O, z_nl_J, z_nl_L, if_true, if_false, ite_true, ite_false, true_and, and_true, List.mem_cons, List.not_mem_nil, or_false, false_or, or_self, List.length_cons, List.length_nil, InR_t, InL_t, z_ix_t, mI_s1, mI_s2, ↓brT, ↓brF, ↓brT', ↓brF', mL_sI, mR_sI, mK_sI, mS_sI, mI_sL, mL_s1, mL_s2, mR_sL, mK_sL, mS_sL, mI_sR, mL_sR, mR_s1, mR_s2, mK_sR, mS_sR, mA_s1, mA_s2, mL_sA, mR_sA, mK_sA, mS_sA, ix_n, ix_a, ix_m, ix_s, z_sw, z_stop, forall_const, true_implies, false_implies, imp_self, implies_true, not_true_eq_false, not_false_eq_true, ne_eq, eq_self, Option.some.injEq, reduceCtorEq, Nat.reduceAdd, Nat.reduceSub, Nat.reduceMul, Nat.reduceEqDiff, Nat.reduceLT, Nat.reduceLeDiff, Int.reduceAdd, Int.reduceMul, Int.reduceSub, Int.reduceNeg, Int.reduceToNat, Int.reduceLT, Int.reduceLE, Int.reduceEq, ↓reduceIte, List.reverse_cons, Option.toList, List.cons_append, List.nil_append, vI_inj, vL_inj, vO_inj, rI, rL, rO, rV, mI_sQ, mL_sQ, mK_sQ, mS_sQ, mQ_s1, mQ_s2, iL_and, iL_or, iL_xor, iL_shl, iL_ushr, iR_and, iR_or, iR_xor, iR_shl, iR_shr, iR_ushr, iR_cmp, yc0, tlX2_takeUnfit, tkX2_takeUnfit, o_aload, o_dup, o_getL, o_getR, o_goto, o_ic, o_icge, o_icgt, o_ifeq, o_iinc, o_iload, o_istore, o_lald, o_land, o_lc, o_lcmp, o_lload, o_lshl, o_lstore, o_lxor, o_putL, o_vret]
  try simp +contextual (disch := omega) only [impF, impT, and_true, true_and, implies_true, not_false_eq_true, not_true_eq_false]
  exact h0
