/-! Puzzle.firstWithin: the first selection within a limit -/
def fwB (F : Nat → Int) (x : Int) (k : Nat) (t : Nat → Nat) : Bool := allN (fun p => lb x (5 * p + t p)) 8 && allN (fun p => allN (fun q => !decide (k ≤ p) || lb (F (5 * p + t p)) (5 * q + t q)) 8) 8
theorem fwB_iff {F : Nat → Int} {x : Int} {k : Nat} {t : Nat → Nat} : fwB F x k t = true ↔ Lf x t ∧ ∀ p, p < 8 → ∀ q, q < 8 → (k ≤ p → lb (F (5 * p + t p)) (5 * q + t q) = true) := by
  unfold fwB Lf
  simp only [Bool.and_eq_true, allN_iff, decide_eq_true_eq, imp_b]
/-- a step down: the spot of package k is set -/
theorem fwB_down {F : Nat → Int} {x : Int} {k v : Nat} {t : Nat → Nat} (hk : k < 8) (htk : t k = v) (hb : lb x (5 * k + v) = true) : fwB F x k t = fwB F (y_and x (F (5 * k + v))) (k + 1) t := by
  apply Bool.eq_iff_iff.mpr
  rw [fwB_iff, fwB_iff]
  constructor
  · rintro ⟨h1, h2⟩
    refine ⟨fun p hp => ?_, fun p hp q hq h => h2 p hp q hq (by omega)⟩
    have := h2 k hk p hp (Nat.le_refl _)
    rw [htk] at this
    rw [lb_and, h1 p hp, this]
    rfl
  · rintro ⟨h1, h2⟩
    refine ⟨fun p hp => ?_, fun p hp q hq h => ?_⟩
    · have := h1 p hp
      rw [lb_and] at this
      simp at this
      exact this.1
    · by_cases e : p = k
      · subst e
        have := h1 q hq
        rw [lb_and] at this
        simp at this
        rw [htk]
        exact this.2
      · exact h2 p hp q hq (by omega)
theorem fwB_not {F : Nat → Int} {x : Int} {k v : Nat} {t : Nat → Nat} (hk : k < 8) (htk : t k = v) (hb : lb x (5 * k + v) = false) : fwB F x k t = false := by
  cases h : fwB F x k t
  · rfl
  · have := (fwB_iff.mp h).1 k hk
    rw [htk, hb] at this
    cases this
theorem fwB_np {F : Nat → Int} {x : Int} {k : Nat} {t : Nat → Nat} (h4 : ∀ p, p < 8 → t p ≤ 4) (hb : ¬ ∀ p, p < 8 → pk x p = true) : fwB F x k t = false := by
  cases h : fwB F x k t
  · rfl
  · exact absurd (fun p hp => pk_iff.mpr ⟨t p, by have := h4 p hp; omega, (fwB_iff.mp h).1 p hp⟩) hb
theorem enum_k {d k v : Nat} {s t : Nat → Nat} (hd : k + d = 7) (h4 : ∀ p, p < k → s p ≤ 4) (hv : v < 5) (ht : t ∈ enum d (up s k v)) : t k = v ∧ (∀ p, p < k → t p = s p) ∧ ∀ p, p < 8 → t p ≤ 4 := by
  rw [enum_mem d _ t (by omega)] at ht
  obtain ⟨h1, h2⟩ := ht
  have e : t k = v := by rw [h1 k (by omega), up_s]
  have e2 : ∀ p, p < k → t p = s p := fun p hp => by rw [h1 p (by omega), up_n _ _ (by omega)]
  refine ⟨e, e2, fun p hp => ?_⟩
  by_cases q : p < k
  · rw [e2 p q]; exact h4 p q
  · by_cases q2 : p = k
    · rw [q2, e]; omega
    · exact h2 p (by omega) hp
theorem find_none {α : Type} {l : List α} {P : α → Bool} (h : ∀ x, x ∈ l → P x = false) : l.find? P = none := by
  rw [List.find?_eq_none]
  intro x hx
  rw [h x hx]
  decide
theorem Enc_ne {y : Int} {t : Nat → Nat} (he : Enc y t) (h4 : ∀ p, p < 8 → t p ≤ 4) : y ≠ 0 := by
  intro q
  have := he.2.1 0 (t 0) (by omega) (by have := h4 0 (by omega); omega)
  rw [q, lb_0] at this
  simp at this
/-- what is left of package p: only one value -/
theorem nx_dec {F : Nat → Int} {x : Int} {k v : Nat} {s : Nat → Nat} (hk : k < 8) (hv : v < 5) (hFo : ∀ p v w, p < 8 → v < 5 → w < 5 → lb (F (5 * p + v)) (5 * p + w) = true → w = v) (hx : ∀ p w, p < k → w < 5 → lb x (5 * p + w) = decide (w = s p)) (hp : ∀ p, p < 8 → pk (y_and x (F (5 * k + v))) p = true) : ∀ p w, p < k + 1 → w < 5 → lb (y_and x (F (5 * k + v))) (5 * p + w) = decide (w = up s k v p) := by
  intro p w h1 h2
  obtain ⟨u, q1, q2⟩ := pk_iff.mp (hp p (by omega))
  have q3 := q2
  rw [lb_and] at q3
  simp at q3
  by_cases e : p = k
  · subst e
    have hu := hFo p v u hk hv q1 q3.2
    subst hu
    rw [up_s]
    by_cases ew : w = u
    · subst ew
      simpa using q2
    · have : lb (y_and x (F (5 * p + u))) (5 * p + w) = false := by
        cases hq : lb (y_and x (F (5 * p + u))) (5 * p + w)
        · rfl
        · rw [lb_and] at hq
          simp at hq
          exact absurd (hFo p u w hk hv h2 hq.2) ew
      rw [this]
      simp [ew]
  · have e2 := hx p u (by omega) q1
    rw [q3.1] at e2
    have e3 : u = s p := by simpa using e2.symm
    rw [up_n _ _ e]
    by_cases ew : w = s p
    · rw [ew, ← e3, q2]
      simp
    · rw [lb_and, hx p w (by omega) h2]
      simp [ew]
def fwQ (h : zH) (z : Nat) (A : zA) (F : Nat → Int) (L d k : Nat) (s : Nat → Nat) (x : Int) (nl : Nat) : Option zV → zH → Prop := fun r h' => ∃ (y : Int) (nl' : Nat), r = some (vL y) ∧ h' = sI h z 10 nl' ∧ nl' ≤ 80 ∧ InL y ∧ match ((enum d s).filter (fwB F x k)).find? (fun t => decide (cost A t ≤ L)) with
  | some t => Enc y t ∧ t ∈ enum d s
  | none => y = 0 ∧ nl' ≤ nl ∧ (L < nl → L < nl') ∧ ∀ t, t ∈ enum d s → fwB F x k t = true → nl' ≤ cost A t
theorem sI_sI (h : zH) (a k : Nat) (z w : Int) : sI (sI h a k z) a k w = sI h a k w := by
  rw [sI_eq h a k z, sI_sA, sI_eq h a k w]
  congr 1
  funext j
  simp only [up]
  split <;> rfl
set_option maxHeartbeats 4000000 in
theorem sp_firstWithin (l : Launch) (G : zG) (h : zH) (z : Nat) (A : zA) (F : Nat → Int) (K KP : Int) (L : Nat) (hsh : ShP h z) (hF : gL h (z + 5) = F) (hK : gL h z 6 = K) (hKP : gL h z 7 = KP) (hKp : KpOK A K KP) (hA : AOK A) (hFo : ∀ p v w, p < 8 → v < 5 → w < 5 → lb (F (5 * p + v)) (5 * p + w) = true → w = v) (hL : L ≤ 80) : ∀ (d k : Nat) (s : Nat → Nat) (x : Int) (nl : Nat), k + d = 8 → nl ≤ 80 → InL x → (∀ j, 40 ≤ j → lb x j = false) → (∀ p v, p < 8 → v < 5 → lb x (5 * p + v) = true → v ≤ aN A p) → (∀ p v, p < k → v < 5 → lb x (5 * p + v) = decide (v = s p)) → (∀ p, p < k → s p ≤ 4) → (d = 0 → cost A s ≤ L) → ∀ (lv : Nat), d + 3 ≤ lv → z_Sp l G mtX2_firstWithin lv 0 0 [vR z, vI k, vL x, vI L] (sI h z 10 nl) (fwQ h z A F L d k s x nl) := by
  obtain ⟨k0, k1, k2, k3, k4, k5, r0, r1, r2, r3, r4⟩ := hsh
  intro d
  induction d with
  | zero =>
    intro k s x nl hkd hnl hxL hx40 hxn hxs hs4 hc lv hlv
    refine x_enter [vR z, vI k, vL x, vJ, vI L, vJ, vJ, vJ, vJ, vJ, vJ, vJ] (by decide +kernel) (by omega) rfl (Nat.le_of_ble_eq_true rfl) ?_
    generalize hQ : fwQ h z A F L 0 k s x nl = QQ
    refine z_run1 tsX2_firstWithin [] 20 ?_
    simp (maxSteps := 1000000) -implicitDefEqProofs +contextual (disch := omega) only [z_wp_t, z_wp_u, ↓pI_e, ↓pL_e, ↓pO_e, ↓pR_e, ↓p1_I, ↓p1_O, z_gl, z_st1, z_st2, z_nl_I, z_nl_O, z_nl_J, z_nl_L, if_true, if_false, ite_true, ite_false, true_and, and_true, List.mem_cons, List.not_mem_nil, or_false, false_or, or_self, List.length_cons, List.length_nil, InR_t, InL_t, z_ix_t, mI_s1, mI_s2, ↓brT, ↓brF, ↓brT', ↓brF', mL_sI, mR_sI, mK_sI, mS_sI, mI_sL, mL_s1, mL_s2, mR_sL, mK_sL, mS_sL, mI_sR, mL_sR, mR_s1, mR_s2, mK_sR, mS_sR, mA_s1, mA_s2, mL_sA, mR_sA, mK_sA, mS_sA, ix_n, ix_a, ix_m, ix_s, z_sw, z_stop, forall_const, true_implies, false_implies, imp_self, implies_true, not_true_eq_false, not_false_eq_true, ne_eq, eq_self, Option.some.injEq, reduceCtorEq, Nat.reduceAdd, Nat.reduceSub, Nat.reduceMul, Nat.reduceEqDiff, Nat.reduceLT, Nat.reduceLeDiff, Int.reduceAdd, Int.reduceMul, Int.reduceSub, Int.reduceNeg, Int.reduceToNat, Int.reduceLT, Int.reduceLE, Int.reduceEq, ↓reduceIte, List.reverse_cons, Option.toList, List.cons_append, List.nil_append, vI_inj, vL_inj, vO_inj, rI, rL, rO, rV, mI_sQ, mL_sQ, mK_sQ, mS_sQ, mQ_s1, mQ_s2, iL_and, iL_or, iL_xor, iL_shl, iL_ushr, iR_and, iR_or, iR_xor, iR_shl, iR_shr, iR_ushr, iR_cmp, yc0, tlX2_firstWithin, tkX2_firstWithin, o_aload, o_getI, o_getR, o_goto, o_iadd, o_ic, o_icle, o_iclt, o_ifeq, o_iflt, o_ifne, o_ifnull, o_iinc, o_iload, o_imul, o_istore, o_lald, o_land, o_lc, o_lcmp, o_lload, o_lret, o_lstore, o_lushr, o_putI, k0]
    try simp +contextual (disch := omega) only [impF, impT, and_true, true_and, implies_true, not_false_eq_true, not_true_eq_false]
    rw [← hQ]
    have hfw : fwB F x k s = true := fwB_iff.mpr ⟨fun p hp => by rw [hxs p _ (by omega) (by have := hs4 p (by omega); omega)]; simp, fun p hp q hq h => by omega⟩
    refine ⟨x, nl, rfl, rfl, hnl, hxL, ?_⟩
    simp only [enum, List.filter_cons, hfw, if_true, List.filter_nil, List.find?_cons, hc rfl, decide_true]
    exact ⟨⟨hxL, fun p v hp hv => hxs p v (by omega) hv, hx40⟩, List.mem_singleton.mpr rfl⟩
  | succ d ihd =>
    intro k s x nl hkd hnl hxL hx40 hxn hxs hs4 hc lv hlv
    have e7 : 7 - d = k := by omega
    refine x_enter [vR z, vI k, vL x, vJ, vI L, vJ, vJ, vJ, vJ, vJ, vJ, vJ] (by decide +kernel) (by omega) rfl (Nat.le_of_ble_eq_true rfl) ?_
    generalize hQ : fwQ h z A F L (d + 1) k s x nl = QQ
    have hlo : ∀ (n nl' : Nat), n ≤ 5 → nl' ≤ 80 → nl' ≤ nl → (L < nl → L < nl') → (∀ v, n ≤ v → v < 5 → ∀ t, t ∈ enum d (up s k v) → fwB F x k t = true → nl' ≤ cost A t) → ((enum (d + 1) s).filter (fwB F x k)).find? (fun t => decide (cost A t ≤ L)) = (enV (fun v => (enum d (up s k v)).filter (fwB F x k)) n).find? (fun t => decide (cost A t ≤ L)) → z_X l G mtX2_firstWithin lv 0 0 (QQ) 0 0 (sI h z 10 nl') 19 [vR z, vI k, vL x, vJ, vI L, vI ((n : Int) - 1), vJ, vJ, vJ, vJ, vJ, vJ] [] := by
      intro n
      induction n with
      | zero =>
        intro nl' hn hnl' hle hlt hall hfind
        refine z_run1 tsX2_firstWithin [] 20 ?_
        simp (maxSteps := 1000000) -implicitDefEqProofs +contextual (disch := omega) only [z_wp_t, z_wp_u, ↓pI_e, ↓pL_e, ↓pO_e, ↓pR_e, ↓p1_I, ↓p1_O, z_gl, z_st1, z_st2, z_nl_I, z_nl_O, z_nl_J, z_nl_L, if_true, if_false, ite_true, ite_false, true_and, and_true, List.mem_cons, List.not_mem_nil, or_false, false_or, or_self, List.length_cons, List.length_nil, InR_t, InL_t, z_ix_t, mI_s1, mI_s2, ↓brT, ↓brF, ↓brT', ↓brF', mL_sI, mR_sI, mK_sI, mS_sI, mI_sL, mL_s1, mL_s2, mR_sL, mK_sL, mS_sL, mI_sR, mL_sR, mR_s1, mR_s2, mK_sR, mS_sR, mA_s1, mA_s2, mL_sA, mR_sA, mK_sA, mS_sA, ix_n, ix_a, ix_m, ix_s, z_sw, z_stop, forall_const, true_implies, false_implies, imp_self, implies_true, not_true_eq_false, not_false_eq_true, ne_eq, eq_self, Option.some.injEq, reduceCtorEq, Nat.reduceAdd, Nat.reduceSub, Nat.reduceMul, Nat.reduceEqDiff, Nat.reduceLT, Nat.reduceLeDiff, Int.reduceAdd, Int.reduceMul, Int.reduceSub, Int.reduceNeg, Int.reduceToNat, Int.reduceLT, Int.reduceLE, Int.reduceEq, ↓reduceIte, List.reverse_cons, Option.toList, List.cons_append, List.nil_append, vI_inj, vL_inj, vO_inj, rI, rL, rO, rV, mI_sQ, mL_sQ, mK_sQ, mS_sQ, mQ_s1, mQ_s2, iL_and, iL_or, iL_xor, iL_shl, iL_ushr, iR_and, iR_or, iR_xor, iR_shl, iR_shr, iR_ushr, iR_cmp, yc0, tlX2_firstWithin, tkX2_firstWithin, o_aload, o_getI, o_getR, o_goto, o_iadd, o_ic, o_icle, o_iclt, o_ifeq, o_iflt, o_ifne, o_ifnull, o_iinc, o_iload, o_imul, o_istore, o_lald, o_land, o_lc, o_lcmp, o_lload, o_lret, o_lstore, o_lushr, o_putI]
        try simp +contextual (disch := omega) only [impF, impT, and_true, true_and, implies_true, not_false_eq_true, not_true_eq_false]
        rw [← hQ]
        refine ⟨0, nl', rfl, rfl, hnl', by unfold InL; omega, ?_⟩
        rw [hfind]
        simp only [enV, List.find?_nil]
        refine ⟨trivial, hle, hlt, fun t ht hf => ?_⟩
        rw [enum_s, enV_mem] at ht
        obtain ⟨v, hv, ht⟩ := ht
        rw [e7] at ht
        exact hall v (by omega) hv t ht hf
      | succ n ih =>
        intro nl' hn hnl' hle hlt hall hfind
        rw [show ((n + 1 : Nat) : Int) - 1 = (n : Int) by omega]
        have hbit := y_bit x (k := 5 * k + n) (by omega)
        rw [show ((5 * k + n : Nat) : Int) = 5 * (k : Int) + (n : Int) by omega] at hbit
        -- nothing is found at this value: go on
        have skip : ∀ (nl2 : Nat), nl2 ≤ 80 → nl2 ≤ nl' → (L < nl' → L < nl2) → (∀ t, t ∈ enum d (up s k n) → fwB F x k t = true → nl2 ≤ cost A t ∧ L < cost A t) → z_X l G mtX2_firstWithin lv 0 0 (QQ) 0 0 (sI h z 10 nl2) 127 [vR z, vI k, vL x, vJ, vI L, vI n, vJ, vJ, vJ, vJ, vJ, vJ] [] := by
          intro nl2 g1 g2 g3 g4
          have hnx := ih nl2 (by omega) g1 (by omega) (fun q => g3 (hlt q)) (fun v h1 h2 t ht hf => by
            by_cases e : v = n
            · subst e; exact (g4 t ht hf).1
            · exact Nat.le_trans g2 (hall v (by omega) h2 t ht hf)) (by
            rw [hfind]
            simp only [enV]
            rw [List.find?_append, find_none, Option.none_or]
            intro t ht
            rw [List.mem_filter] at ht
            have := (g4 t ht.1 ht.2).2
            simp
            omega)
          refine z_run1 tsX2_firstWithin [19] 20 ?_
          simp (maxSteps := 1000000) -implicitDefEqProofs +contextual (disch := omega) only [z_wp_t, z_wp_u, ↓pI_e, ↓pL_e, ↓pO_e, ↓pR_e, ↓p1_I, ↓p1_O, z_gl, z_st1, z_st2, z_nl_I, z_nl_O, z_nl_J, z_nl_L, if_true, if_false, ite_true, ite_false, true_and, and_true, List.mem_cons, List.not_mem_nil, or_false, false_or, or_self, List.length_cons, List.length_nil, InR_t, InL_t, z_ix_t, mI_s1, mI_s2, ↓brT, ↓brF, ↓brT', ↓brF', mL_sI, mR_sI, mK_sI, mS_sI, mI_sL, mL_s1, mL_s2, mR_sL, mK_sL, mS_sL, mI_sR, mL_sR, mR_s1, mR_s2, mK_sR, mS_sR, mA_s1, mA_s2, mL_sA, mR_sA, mK_sA, mS_sA, ix_n, ix_a, ix_m, ix_s, z_sw, z_stop, forall_const, true_implies, false_implies, imp_self, implies_true, not_true_eq_false, not_false_eq_true, ne_eq, eq_self, Option.some.injEq, reduceCtorEq, Nat.reduceAdd, Nat.reduceSub, Nat.reduceMul, Nat.reduceEqDiff, Nat.reduceLT, Nat.reduceLeDiff, Int.reduceAdd, Int.reduceMul, Int.reduceSub, Int.reduceNeg, Int.reduceToNat, Int.reduceLT, Int.reduceLE, Int.reduceEq, ↓reduceIte, List.reverse_cons, Option.toList, List.cons_append, List.nil_append, vI_inj, vL_inj, vO_inj, rI, rL, rO, rV, mI_sQ, mL_sQ, mK_sQ, mS_sQ, mQ_s1, mQ_s2, iL_and, iL_or, iL_xor, iL_shl, iL_ushr, iR_and, iR_or, iR_xor, iR_shl, iR_shr, iR_ushr, iR_cmp, yc0, tlX2_firstWithin, tkX2_firstWithin, o_aload, o_getI, o_getR, o_goto, o_iadd, o_ic, o_icle, o_iclt, o_ifeq, o_iflt, o_ifne, o_ifnull, o_iinc, o_iload, o_imul, o_istore, o_lald, o_land, o_lc, o_lcmp, o_lload, o_lret, o_lstore, o_lushr, o_putI]
          try simp +contextual (disch := omega) only [impF, impT, and_true, true_and, implies_true, not_false_eq_true, not_true_eq_false]
          exact hnx
        cases hb : lb x (5 * k + n)
        · rw [hb] at hbit
          simp only [Bool.false_eq_true, if_false] at hbit
          have hp0 : ¬ pkL 0 = 35468117025 := by
            rw [pkL_eq]
            intro q
            have := q 0 (by omega)
            simp [pk, lb_0] at this
          refine z_run1 tsX2_firstWithin [] 20 ?_
          simp (maxSteps := 1000000) -implicitDefEqProofs +contextual (disch := omega) only [z_wp_t, z_wp_u, ↓pI_e, ↓pL_e, ↓pO_e, ↓pR_e, ↓p1_I, ↓p1_O, z_gl, z_st1, z_st2, z_nl_I, z_nl_O, z_nl_J, z_nl_L, if_true, if_false, ite_true, ite_false, true_and, and_true, List.mem_cons, List.not_mem_nil, or_false, false_or, or_self, List.length_cons, List.length_nil, InR_t, InL_t, z_ix_t, mI_s1, mI_s2, ↓brT, ↓brF, ↓brT', ↓brF', mL_sI, mR_sI, mK_sI, mS_sI, mI_sL, mL_s1, mL_s2, mR_sL, mK_sL, mS_sL, mI_sR, mL_sR, mR_s1, mR_s2, mK_sR, mS_sR, mA_s1, mA_s2, mL_sA, mR_sA, mK_sA, mS_sA, ix_n, ix_a, ix_m, ix_s, z_sw, z_stop, forall_const, true_implies, false_implies, imp_self, implies_true, not_true_eq_false, not_false_eq_true, ne_eq, eq_self, Option.some.injEq, reduceCtorEq, Nat.reduceAdd, Nat.reduceSub, Nat.reduceMul, Nat.reduceEqDiff, Nat.reduceLT, Nat.reduceLeDiff, Int.reduceAdd, Int.reduceMul, Int.reduceSub, Int.reduceNeg, Int.reduceToNat, Int.reduceLT, Int.reduceLE, Int.reduceEq, ↓reduceIte, List.reverse_cons, Option.toList, List.cons_append, List.nil_append, vI_inj, vL_inj, vO_inj, rI, rL, rO, rV, mI_sQ, mL_sQ, mK_sQ, mS_sQ, mQ_s1, mQ_s2, iL_and, iL_or, iL_xor, iL_shl, iL_ushr, iR_and, iR_or, iR_xor, iR_shl, iR_shr, iR_ushr, iR_cmp, yc0, tlX2_firstWithin, tkX2_firstWithin, o_aload, o_getI, o_getR, o_goto, o_iadd, o_ic, o_icle, o_iclt, o_ifeq, o_iflt, o_ifne, o_ifnull, o_iinc, o_iload, o_imul, o_istore, o_lald, o_land, o_lc, o_lcmp, o_lload, o_lret, o_lstore, o_lushr, o_putI, hbit]
          try simp +contextual (disch := omega) only [impF, impT, and_true, true_and, implies_true, not_false_eq_true, not_true_eq_false]
          refine x_callS (by decide +kernel) cv_X2_110 (sp_packsOf l G _ 0 1 (by omega)) (by omega) rfl (by omega) (by omega) rfl (Nat.le_of_ble_eq_true rfl) ?_
          rintro r h' ⟨rfl, rfl⟩
          refine z_run1 tsX2_firstWithin [127] 20 ?_
          simp (maxSteps := 1000000) -implicitDefEqProofs +contextual (disch := omega) only [z_wp_t, z_wp_u, ↓pI_e, ↓pL_e, ↓pO_e, ↓pR_e, ↓p1_I, ↓p1_O, z_gl, z_st1, z_st2, z_nl_I, z_nl_O, z_nl_J, z_nl_L, if_true, if_false, ite_true, ite_false, true_and, and_true, List.mem_cons, List.not_mem_nil, or_false, false_or, or_self, List.length_cons, List.length_nil, InR_t, InL_t, z_ix_t, mI_s1, mI_s2, ↓brT, ↓brF, ↓brT', ↓brF', mL_sI, mR_sI, mK_sI, mS_sI, mI_sL, mL_s1, mL_s2, mR_sL, mK_sL, mS_sL, mI_sR, mL_sR, mR_s1, mR_s2, mK_sR, mS_sR, mA_s1, mA_s2, mL_sA, mR_sA, mK_sA, mS_sA, ix_n, ix_a, ix_m, ix_s, z_sw, z_stop, forall_const, true_implies, false_implies, imp_self, implies_true, not_true_eq_false, not_false_eq_true, ne_eq, eq_self, Option.some.injEq, reduceCtorEq, Nat.reduceAdd, Nat.reduceSub, Nat.reduceMul, Nat.reduceEqDiff, Nat.reduceLT, Nat.reduceLeDiff, Int.reduceAdd, Int.reduceMul, Int.reduceSub, Int.reduceNeg, Int.reduceToNat, Int.reduceLT, Int.reduceLE, Int.reduceEq, ↓reduceIte, List.reverse_cons, Option.toList, List.cons_append, List.nil_append, vI_inj, vL_inj, vO_inj, rI, rL, rO, rV, mI_sQ, mL_sQ, mK_sQ, mS_sQ, mQ_s1, mQ_s2, iL_and, iL_or, iL_xor, iL_shl, iL_ushr, iR_and, iR_or, iR_xor, iR_shl, iR_shr, iR_ushr, iR_cmp, yc0, tlX2_firstWithin, tkX2_firstWithin, o_aload, o_getI, o_getR, o_goto, o_iadd, o_ic, o_icle, o_iclt, o_ifeq, o_iflt, o_ifne, o_ifnull, o_iinc, o_iload, o_imul, o_istore, o_lald, o_land, o_lc, o_lcmp, o_lload, o_lret, o_lstore, o_lushr, o_putI, hp0, pkL_L]
          try simp +contextual (disch := omega) only [impF, impT, and_true, true_and, implies_true, not_false_eq_true, not_true_eq_false]
          refine x_wk [vR z, vI k, vL x, vJ, vI L, vI n, vJ, vJ, vJ, vJ, vJ, vJ] (by simp [z_wk]) ?_
          refine skip nl' hnl' (Nat.le_refl _) (fun q => q) (fun t ht hf => ?_)
          rw [fwB_not (by omega) (enum_k (by omega) hs4 (by omega) ht).1 hb] at hf
          cases hf
        · rw [hb] at hbit
          simp only [if_true] at hbit
          refine z_run1 tsX2_firstWithin [] 30 ?_
          simp (maxSteps := 1000000) -implicitDefEqProofs +contextual (disch := omega) only [z_wp_t, z_wp_u, ↓pI_e, ↓pL_e, ↓pO_e, ↓pR_e, ↓p1_I, ↓p1_O, z_gl, z_st1, z_st2, z_nl_I, z_nl_O, z_nl_J, z_nl_L, if_true, if_false, ite_true, ite_false, true_and, and_true, List.mem_cons, List.not_mem_nil, or_false, false_or, or_self, List.length_cons, List.length_nil, InR_t, InL_t, z_ix_t, mI_s1, mI_s2, ↓brT, ↓brF, ↓brT', ↓brF', mL_sI, mR_sI, mK_sI, mS_sI, mI_sL, mL_s1, mL_s2, mR_sL, mK_sL, mS_sL, mI_sR, mL_sR, mR_s1, mR_s2, mK_sR, mS_sR, mA_s1, mA_s2, mL_sA, mR_sA, mK_sA, mS_sA, ix_n, ix_a, ix_m, ix_s, z_sw, z_stop, forall_const, true_implies, false_implies, imp_self, implies_true, not_true_eq_false, not_false_eq_true, ne_eq, eq_self, Option.some.injEq, reduceCtorEq, Nat.reduceAdd, Nat.reduceSub, Nat.reduceMul, Nat.reduceEqDiff, Nat.reduceLT, Nat.reduceLeDiff, Int.reduceAdd, Int.reduceMul, Int.reduceSub, Int.reduceNeg, Int.reduceToNat, Int.reduceLT, Int.reduceLE, Int.reduceEq, ↓reduceIte, List.reverse_cons, Option.toList, List.cons_append, List.nil_append, vI_inj, vL_inj, vO_inj, rI, rL, rO, rV, mI_sQ, mL_sQ, mK_sQ, mS_sQ, mQ_s1, mQ_s2, iL_and, iL_or, iL_xor, iL_shl, iL_ushr, iR_and, iR_or, iR_xor, iR_shl, iR_shr, iR_ushr, iR_cmp, yc0, tlX2_firstWithin, tkX2_firstWithin, o_aload, o_getI, o_getR, o_goto, o_iadd, o_ic, o_icle, o_iclt, o_ifeq, o_iflt, o_ifne, o_ifnull, o_iinc, o_iload, o_imul, o_istore, o_lald, o_land, o_lc, o_lcmp, o_lload, o_lret, o_lstore, o_lushr, o_putI, hbit, k0, k5, r4, hF]
          try simp +contextual (disch := omega) only [impF, impT, and_true, true_and, implies_true, not_false_eq_true, not_true_eq_false]
          refine x_callS (by decide +kernel) cv_X2_110 (sp_packsOf l G _ (y_and x (F (5 * k + n))) 1 (by omega)) (by omega) rfl (by omega) (by omega) rfl (Nat.le_of_ble_eq_true rfl) ?_
          rintro r h' ⟨rfl, rfl⟩
          by_cases hp : ∀ p, p < 8 → pk (y_and x (F (5 * k + n))) p = true
          · have hpe := pkL_eq.mpr hp
            have hnx := nx_dec (by omega) (by omega) hFo hxs hp
            refine z_run1 tsX2_firstWithin [] 20 ?_
            simp (maxSteps := 1000000) -implicitDefEqProofs +contextual (disch := omega) only [z_wp_t, z_wp_u, ↓pI_e, ↓pL_e, ↓pO_e, ↓pR_e, ↓p1_I, ↓p1_O, z_gl, z_st1, z_st2, z_nl_I, z_nl_O, z_nl_J, z_nl_L, if_true, if_false, ite_true, ite_false, true_and, and_true, List.mem_cons, List.not_mem_nil, or_false, false_or, or_self, List.length_cons, List.length_nil, InR_t, InL_t, z_ix_t, mI_s1, mI_s2, ↓brT, ↓brF, ↓brT', ↓brF', mL_sI, mR_sI, mK_sI, mS_sI, mI_sL, mL_s1, mL_s2, mR_sL, mK_sL, mS_sL, mI_sR, mL_sR, mR_s1, mR_s2, mK_sR, mS_sR, mA_s1, mA_s2, mL_sA, mR_sA, mK_sA, mS_sA, ix_n, ix_a, ix_m, ix_s, z_sw, z_stop, forall_const, true_implies, false_implies, imp_self, implies_true, not_true_eq_false, not_false_eq_true, ne_eq, eq_self, Option.some.injEq, reduceCtorEq, Nat.reduceAdd, Nat.reduceSub, Nat.reduceMul, Nat.reduceEqDiff, Nat.reduceLT, Nat.reduceLeDiff, Int.reduceAdd, Int.reduceMul, Int.reduceSub, Int.reduceNeg, Int.reduceToNat, Int.reduceLT, Int.reduceLE, Int.reduceEq, ↓reduceIte, List.reverse_cons, Option.toList, List.cons_append, List.nil_append, vI_inj, vL_inj, vO_inj, rI, rL, rO, rV, mI_sQ, mL_sQ, mK_sQ, mS_sQ, mQ_s1, mQ_s2, iL_and, iL_or, iL_xor, iL_shl, iL_ushr, iR_and, iR_or, iR_xor, iR_shl, iR_shr, iR_ushr, iR_cmp, yc0, tlX2_firstWithin, tkX2_firstWithin, o_aload, o_getI, o_getR, o_goto, o_iadd, o_ic, o_icle, o_iclt, o_ifeq, o_iflt, o_ifne, o_ifnull, o_iinc, o_iload, o_imul, o_istore, o_lald, o_land, o_lc, o_lcmp, o_lload, o_lret, o_lstore, o_lushr, o_putI, hpe]
            try simp +contextual (disch := omega) only [impF, impT, and_true, true_and, implies_true, not_false_eq_true, not_true_eq_false]
            refine x_callV (by decide +kernel) cv_X2_123 (sp_leastCost l G (sI h z 10 nl') z (y_and x (F (5 * k + n))) K KP k0 hK hKP 2 (by omega)) k0 (by omega) rfl (by omega) (by omega) rfl (Nat.le_of_ble_eq_true rfl) ?_
            rintro r h' ⟨rfl, rfl⟩
            have hxn2 : ∀ p v, p < 8 → v < 5 → lb (y_and x (F (5 * k + n))) (5 * p + v) = true → v ≤ aN A p := fun p v h1 h2 q => by
              rw [lb_and] at q
              simp at q
              exact hxn p v h1 h2 q.1
            have hcost : ∀ t, t ∈ enum d (up s k n) → fwB F x k t = true → lcN K KP (y_and x (F (5 * k + n))) ≤ cost A t := fun t ht hf => by
              obtain ⟨e1, e2, e3⟩ := enum_k (by omega) hs4 (by omega) ht
              rw [fwB_down (by omega) e1 hb] at hf
              exact lc_le hA hKp hxn2 (fwB_iff.mp hf).1 e3
            have hlr : lcN K KP (y_and x (F (5 * k + n))) ≤ 90 := by
              have := cnt_le (fun p => !unB K (y_and x (F (5 * k + n))) p) 8
              have := cnt5_le (n := 8) (a := fun _ => false) (b := fun p => unB K (y_and x (F (5 * k + n))) p && lb KP (5 * p)) (c := fun p => !unB K (y_and x (F (5 * k + n))) p && !lb (y_and x (F (5 * k + n))) (5 * p)) (d := fun _ => false) (e := fun _ => true) (fun p hp => by
                cases unB K (y_and x (F (5 * k + n))) p <;> simp [bn] <;> split <;> omega)
              have e1 : cnt (fun _ => true) 8 = 8 := rfl
              have e2 : cnt (fun _ => false) 8 = 0 := rfl
              unfold lcN
              omega
            generalize hcc : lcN K KP (y_and x (F (5 * k + n))) = cc at *
            by_cases hle2 : cc ≤ L
            · refine z_run1 tsX2_firstWithin [] 20 ?_
              simp (maxSteps := 1000000) -implicitDefEqProofs +contextual (disch := omega) only [z_wp_t, z_wp_u, ↓pI_e, ↓pL_e, ↓pO_e, ↓pR_e, ↓p1_I, ↓p1_O, z_gl, z_st1, z_st2, z_nl_I, z_nl_O, z_nl_J, z_nl_L, if_true, if_false, ite_true, ite_false, true_and, and_true, List.mem_cons, List.not_mem_nil, or_false, false_or, or_self, List.length_cons, List.length_nil, InR_t, InL_t, z_ix_t, mI_s1, mI_s2, ↓brT, ↓brF, ↓brT', ↓brF', mL_sI, mR_sI, mK_sI, mS_sI, mI_sL, mL_s1, mL_s2, mR_sL, mK_sL, mS_sL, mI_sR, mL_sR, mR_s1, mR_s2, mK_sR, mS_sR, mA_s1, mA_s2, mL_sA, mR_sA, mK_sA, mS_sA, ix_n, ix_a, ix_m, ix_s, z_sw, z_stop, forall_const, true_implies, false_implies, imp_self, implies_true, not_true_eq_false, not_false_eq_true, ne_eq, eq_self, Option.some.injEq, reduceCtorEq, Nat.reduceAdd, Nat.reduceSub, Nat.reduceMul, Nat.reduceEqDiff, Nat.reduceLT, Nat.reduceLeDiff, Int.reduceAdd, Int.reduceMul, Int.reduceSub, Int.reduceNeg, Int.reduceToNat, Int.reduceLT, Int.reduceLE, Int.reduceEq, ↓reduceIte, List.reverse_cons, Option.toList, List.cons_append, List.nil_append, vI_inj, vL_inj, vO_inj, rI, rL, rO, rV, mI_sQ, mL_sQ, mK_sQ, mS_sQ, mQ_s1, mQ_s2, iL_and, iL_or, iL_xor, iL_shl, iL_ushr, iR_and, iR_or, iR_xor, iR_shl, iR_shr, iR_ushr, iR_cmp, yc0, tlX2_firstWithin, tkX2_firstWithin, o_aload, o_getI, o_getR, o_goto, o_iadd, o_ic, o_icle, o_iclt, o_ifeq, o_iflt, o_ifne, o_ifnull, o_iinc, o_iload, o_imul, o_istore, o_lald, o_land, o_lc, o_lcmp, o_lload, o_lret, o_lstore, o_lushr, o_putI]
              try simp +contextual (disch := omega) only [impF, impT, and_true, true_and, implies_true, not_false_eq_true, not_true_eq_false]
              have hrec := ihd (k + 1) (up s k n) (y_and x (F (5 * k + n))) nl' (by omega) hnl' (InL_and _ _) (fun j hj => by rw [lb_and, hx40 j hj]; rfl) hxn2 hnx (fun p hp => by
                by_cases e : p = k
                · rw [e, up_s]; omega
                · rw [up_n _ _ e]; exact hs4 p (by omega)) (fun hd0 => by
                have he : Enc (y_and x (F (5 * k + n))) (up s k n) := ⟨InL_and _ _, fun p v h1 h2 => hnx p v (by omega) h2, fun j hj => by rw [lb_and, hx40 j hj]; rfl⟩
                have h4' : ∀ p, p < 8 → up s k n p ≤ 4 := fun p hp => by
                  by_cases e : p = k
                  · rw [e, up_s]; omega
                  · rw [up_n _ _ e]; exact hs4 p (by omega)
                rw [← lc_eq hA hKp he (fun p hp => hxn2 p _ hp (by have := h4' p hp; omega) (by rw [he.2.1 p _ hp (by have := h4' p hp; omega)]; simp)) h4', hcc]
                exact hle2) (d + 3) (Nat.le_refl _)
              rw [show ((k + 1 : Nat) : Int) = (k : Int) + 1 by omega] at hrec
              refine x_callS (by decide +kernel) cv_X2_119 (hrec) (by omega) rfl (by omega) (by omega) rfl (Nat.le_of_ble_eq_true rfl) ?_
              rintro r h' ⟨y, nl2, rfl, rfl, hnl2, hyL, hm⟩
              have hfil : (enum d (up s k n)).filter (fwB F x k) = (enum d (up s k n)).filter (fwB F (y_and x (F (5 * k + n))) (k + 1)) := filt_congr fun t ht => fwB_down (by omega) (enum_k (by omega) hs4 (by omega) ht).1 hb
              rw [← hfil] at hm
              cases hfd : ((enum d (up s k n)).filter (fwB F x k)).find? (fun t => decide (cost A t ≤ L)) with
              | some t =>
                rw [hfd] at hm
                obtain ⟨hE, hmem⟩ := hm
                have hy0 := Enc_ne hE (enum_k (by omega) hs4 (by omega) hmem).2.2
                refine z_run1 tsX2_firstWithin [] 20 ?_
                simp (maxSteps := 1000000) -implicitDefEqProofs +contextual (disch := omega) only [z_wp_t, z_wp_u, ↓pI_e, ↓pL_e, ↓pO_e, ↓pR_e, ↓p1_I, ↓p1_O, z_gl, z_st1, z_st2, z_nl_I, z_nl_O, z_nl_J, z_nl_L, if_true, if_false, ite_true, ite_false, true_and, and_true, List.mem_cons, List.not_mem_nil, or_false, false_or, or_self, List.length_cons, List.length_nil, InR_t, InL_t, z_ix_t, mI_s1, mI_s2, ↓brT, ↓brF, ↓brT', ↓brF', mL_sI, mR_sI, mK_sI, mS_sI, mI_sL, mL_s1, mL_s2, mR_sL, mK_sL, mS_sL, mI_sR, mL_sR, mR_s1, mR_s2, mK_sR, mS_sR, mA_s1, mA_s2, mL_sA, mR_sA, mK_sA, mS_sA, ix_n, ix_a, ix_m, ix_s, z_sw, z_stop, forall_const, true_implies, false_implies, imp_self, implies_true, not_true_eq_false, not_false_eq_true, ne_eq, eq_self, Option.some.injEq, reduceCtorEq, Nat.reduceAdd, Nat.reduceSub, Nat.reduceMul, Nat.reduceEqDiff, Nat.reduceLT, Nat.reduceLeDiff, Int.reduceAdd, Int.reduceMul, Int.reduceSub, Int.reduceNeg, Int.reduceToNat, Int.reduceLT, Int.reduceLE, Int.reduceEq, ↓reduceIte, List.reverse_cons, Option.toList, List.cons_append, List.nil_append, vI_inj, vL_inj, vO_inj, rI, rL, rO, rV, mI_sQ, mL_sQ, mK_sQ, mS_sQ, mQ_s1, mQ_s2, iL_and, iL_or, iL_xor, iL_shl, iL_ushr, iR_and, iR_or, iR_xor, iR_shl, iR_shr, iR_ushr, iR_cmp, yc0, tlX2_firstWithin, tkX2_firstWithin, o_aload, o_getI, o_getR, o_goto, o_iadd, o_ic, o_icle, o_iclt, o_ifeq, o_iflt, o_ifne, o_ifnull, o_iinc, o_iload, o_imul, o_istore, o_lald, o_land, o_lc, o_lcmp, o_lload, o_lret, o_lstore, o_lushr, o_putI, hy0, hyL]
                try simp +contextual (disch := omega) only [impF, impT, and_true, true_and, implies_true, not_false_eq_true, not_true_eq_false]
                rw [← hQ]
                refine ⟨y, nl2, rfl, rfl, hnl2, hyL, ?_⟩
                rw [hfind]
                simp only [enV]
                rw [List.find?_append, hfd, Option.some_or]
                refine ⟨hE, ?_⟩
                rw [enum_s, enV_mem]
                exact ⟨n, by omega, by rw [e7]; exact hmem⟩
              | none =>
                rw [hfd] at hm
                obtain ⟨rfl, g1, g2, g3⟩ := hm
                refine z_run1 tsX2_firstWithin [127] 20 ?_
                simp (maxSteps := 1000000) -implicitDefEqProofs +contextual (disch := omega) only [z_wp_t, z_wp_u, ↓pI_e, ↓pL_e, ↓pO_e, ↓pR_e, ↓p1_I, ↓p1_O, z_gl, z_st1, z_st2, z_nl_I, z_nl_O, z_nl_J, z_nl_L, if_true, if_false, ite_true, ite_false, true_and, and_true, List.mem_cons, List.not_mem_nil, or_false, false_or, or_self, List.length_cons, List.length_nil, InR_t, InL_t, z_ix_t, mI_s1, mI_s2, ↓brT, ↓brF, ↓brT', ↓brF', mL_sI, mR_sI, mK_sI, mS_sI, mI_sL, mL_s1, mL_s2, mR_sL, mK_sL, mS_sL, mI_sR, mL_sR, mR_s1, mR_s2, mK_sR, mS_sR, mA_s1, mA_s2, mL_sA, mR_sA, mK_sA, mS_sA, ix_n, ix_a, ix_m, ix_s, z_sw, z_stop, forall_const, true_implies, false_implies, imp_self, implies_true, not_true_eq_false, not_false_eq_true, ne_eq, eq_self, Option.some.injEq, reduceCtorEq, Nat.reduceAdd, Nat.reduceSub, Nat.reduceMul, Nat.reduceEqDiff, Nat.reduceLT, Nat.reduceLeDiff, Int.reduceAdd, Int.reduceMul, Int.reduceSub, Int.reduceNeg, Int.reduceToNat, Int.reduceLT, Int.reduceLE, Int.reduceEq, ↓reduceIte, List.reverse_cons, Option.toList, List.cons_append, List.nil_append, vI_inj, vL_inj, vO_inj, rI, rL, rO, rV, mI_sQ, mL_sQ, mK_sQ, mS_sQ, mQ_s1, mQ_s2, iL_and, iL_or, iL_xor, iL_shl, iL_ushr, iR_and, iR_or, iR_xor, iR_shl, iR_shr, iR_ushr, iR_cmp, yc0, tlX2_firstWithin, tkX2_firstWithin, o_aload, o_getI, o_getR, o_goto, o_iadd, o_ic, o_icle, o_iclt, o_ifeq, o_iflt, o_ifne, o_ifnull, o_iinc, o_iload, o_imul, o_istore, o_lald, o_land, o_lc, o_lcmp, o_lload, o_lret, o_lstore, o_lushr, o_putI]
                try simp +contextual (disch := omega) only [impF, impT, and_true, true_and, implies_true, not_false_eq_true, not_true_eq_false]
                refine x_wk [vR z, vI k, vL x, vJ, vI L, vI n, vJ, vJ, vJ, vJ, vJ, vJ] (by simp [z_wk]) ?_
                refine skip nl2 hnl2 g1 g2 (fun t ht hf => ⟨?_, ?_⟩)
                · refine g3 t ht ?_
                  rw [← fwB_down (by omega) (enum_k (by omega) hs4 (by omega) ht).1 hb]
                  exact hf
                · rw [List.find?_eq_none] at hfd
                  have := hfd t (List.mem_filter.mpr ⟨ht, hf⟩)
                  simpa using this
            · have e10 : gI (sI h z 10 nl') z 10 = (nl' : Int) := mI_s1 _ _ _ _
              refine z_run1 tsX2_firstWithin [] 20 ?_
              simp (maxSteps := 1000000) -implicitDefEqProofs +contextual (disch := omega) only [z_wp_t, z_wp_u, ↓pI_e, ↓pL_e, ↓pO_e, ↓pR_e, ↓p1_I, ↓p1_O, z_gl, z_st1, z_st2, z_nl_I, z_nl_O, z_nl_J, z_nl_L, if_true, if_false, ite_true, ite_false, true_and, and_true, List.mem_cons, List.not_mem_nil, or_false, false_or, or_self, List.length_cons, List.length_nil, InR_t, InL_t, z_ix_t, mI_s1, mI_s2, ↓brT, ↓brF, ↓brT', ↓brF', mL_sI, mR_sI, mK_sI, mS_sI, mI_sL, mL_s1, mL_s2, mR_sL, mK_sL, mS_sL, mI_sR, mL_sR, mR_s1, mR_s2, mK_sR, mS_sR, mA_s1, mA_s2, mL_sA, mR_sA, mK_sA, mS_sA, ix_n, ix_a, ix_m, ix_s, z_sw, z_stop, forall_const, true_implies, false_implies, imp_self, implies_true, not_true_eq_false, not_false_eq_true, ne_eq, eq_self, Option.some.injEq, reduceCtorEq, Nat.reduceAdd, Nat.reduceSub, Nat.reduceMul, Nat.reduceEqDiff, Nat.reduceLT, Nat.reduceLeDiff, Int.reduceAdd, Int.reduceMul, Int.reduceSub, Int.reduceNeg, Int.reduceToNat, Int.reduceLT, Int.reduceLE, Int.reduceEq, ↓reduceIte, List.reverse_cons, Option.toList, List.cons_append, List.nil_append, vI_inj, vL_inj, vO_inj, rI, rL, rO, rV, mI_sQ, mL_sQ, mK_sQ, mS_sQ, mQ_s1, mQ_s2, iL_and, iL_or, iL_xor, iL_shl, iL_ushr, iR_and, iR_or, iR_xor, iR_shl, iR_shr, iR_ushr, iR_cmp, yc0, tlX2_firstWithin, tkX2_firstWithin, o_aload, o_getI, o_getR, o_goto, o_iadd, o_ic, o_icle, o_iclt, o_ifeq, o_iflt, o_ifne, o_ifnull, o_iinc, o_iload, o_imul, o_istore, o_lald, o_land, o_lc, o_lcmp, o_lload, o_lret, o_lstore, o_lushr, o_putI, k0, e10]
              try simp +contextual (disch := omega) only [impF, impT, and_true, true_and, implies_true, not_false_eq_true, not_true_eq_false]
              refine x_min (by decide +kernel) cv_X2_130 (by unfold InR; omega) (by unfold InR; omega) (Nat.le_of_ble_eq_true rfl) ?_
              have emin : (if (cc : Int) < (nl' : Int) then (cc : Int) else (nl' : Int)) = ((min nl' cc : Nat) : Int) := by
                split <;> omega
              rw [emin]
              refine z_run1 tsX2_firstWithin [127] 20 ?_
              simp (maxSteps := 1000000) -implicitDefEqProofs +contextual (disch := omega) only [z_wp_t, z_wp_u, ↓pI_e, ↓pL_e, ↓pO_e, ↓pR_e, ↓p1_I, ↓p1_O, z_gl, z_st1, z_st2, z_nl_I, z_nl_O, z_nl_J, z_nl_L, if_true, if_false, ite_true, ite_false, true_and, and_true, List.mem_cons, List.not_mem_nil, or_false, false_or, or_self, List.length_cons, List.length_nil, InR_t, InL_t, z_ix_t, mI_s1, mI_s2, ↓brT, ↓brF, ↓brT', ↓brF', mL_sI, mR_sI, mK_sI, mS_sI, mI_sL, mL_s1, mL_s2, mR_sL, mK_sL, mS_sL, mI_sR, mL_sR, mR_s1, mR_s2, mK_sR, mS_sR, mA_s1, mA_s2, mL_sA, mR_sA, mK_sA, mS_sA, ix_n, ix_a, ix_m, ix_s, z_sw, z_stop, forall_const, true_implies, false_implies, imp_self, implies_true, not_true_eq_false, not_false_eq_true, ne_eq, eq_self, Option.some.injEq, reduceCtorEq, Nat.reduceAdd, Nat.reduceSub, Nat.reduceMul, Nat.reduceEqDiff, Nat.reduceLT, Nat.reduceLeDiff, Int.reduceAdd, Int.reduceMul, Int.reduceSub, Int.reduceNeg, Int.reduceToNat, Int.reduceLT, Int.reduceLE, Int.reduceEq, ↓reduceIte, List.reverse_cons, Option.toList, List.cons_append, List.nil_append, vI_inj, vL_inj, vO_inj, rI, rL, rO, rV, mI_sQ, mL_sQ, mK_sQ, mS_sQ, mQ_s1, mQ_s2, iL_and, iL_or, iL_xor, iL_shl, iL_ushr, iR_and, iR_or, iR_xor, iR_shl, iR_shr, iR_ushr, iR_cmp, yc0, tlX2_firstWithin, tkX2_firstWithin, o_aload, o_getI, o_getR, o_goto, o_iadd, o_ic, o_icle, o_iclt, o_ifeq, o_iflt, o_ifne, o_ifnull, o_iinc, o_iload, o_imul, o_istore, o_lald, o_land, o_lc, o_lcmp, o_lload, o_lret, o_lstore, o_lushr, o_putI, k0, sI_sI]
              try simp +contextual (disch := omega) only [impF, impT, and_true, true_and, implies_true, not_false_eq_true, not_true_eq_false]
              refine x_wk [vR z, vI k, vL x, vJ, vI L, vI n, vJ, vJ, vJ, vJ, vJ, vJ] (by simp [z_wk]) ?_
              refine skip (min nl' cc) (by omega) (by omega) (fun q => by omega) (fun t ht hf => ?_)
              have := hcost t ht hf
              omega
          · have hpe : ¬ pkL (y_and x (F (5 * k + n))) = 35468117025 := fun q => hp (pkL_eq.mp q)
            refine z_run1 tsX2_firstWithin [127] 20 ?_
            simp (maxSteps := 1000000) -implicitDefEqProofs +contextual (disch := omega) only [z_wp_t, z_wp_u, ↓pI_e, ↓pL_e, ↓pO_e, ↓pR_e, ↓p1_I, ↓p1_O, z_gl, z_st1, z_st2, z_nl_I, z_nl_O, z_nl_J, z_nl_L, if_true, if_false, ite_true, ite_false, true_and, and_true, List.mem_cons, List.not_mem_nil, or_false, false_or, or_self, List.length_cons, List.length_nil, InR_t, InL_t, z_ix_t, mI_s1, mI_s2, ↓brT, ↓brF, ↓brT', ↓brF', mL_sI, mR_sI, mK_sI, mS_sI, mI_sL, mL_s1, mL_s2, mR_sL, mK_sL, mS_sL, mI_sR, mL_sR, mR_s1, mR_s2, mK_sR, mS_sR, mA_s1, mA_s2, mL_sA, mR_sA, mK_sA, mS_sA, ix_n, ix_a, ix_m, ix_s, z_sw, z_stop, forall_const, true_implies, false_implies, imp_self, implies_true, not_true_eq_false, not_false_eq_true, ne_eq, eq_self, Option.some.injEq, reduceCtorEq, Nat.reduceAdd, Nat.reduceSub, Nat.reduceMul, Nat.reduceEqDiff, Nat.reduceLT, Nat.reduceLeDiff, Int.reduceAdd, Int.reduceMul, Int.reduceSub, Int.reduceNeg, Int.reduceToNat, Int.reduceLT, Int.reduceLE, Int.reduceEq, ↓reduceIte, List.reverse_cons, Option.toList, List.cons_append, List.nil_append, vI_inj, vL_inj, vO_inj, rI, rL, rO, rV, mI_sQ, mL_sQ, mK_sQ, mS_sQ, mQ_s1, mQ_s2, iL_and, iL_or, iL_xor, iL_shl, iL_ushr, iR_and, iR_or, iR_xor, iR_shl, iR_shr, iR_ushr, iR_cmp, yc0, tlX2_firstWithin, tkX2_firstWithin, o_aload, o_getI, o_getR, o_goto, o_iadd, o_ic, o_icle, o_iclt, o_ifeq, o_iflt, o_ifne, o_ifnull, o_iinc, o_iload, o_imul, o_istore, o_lald, o_land, o_lc, o_lcmp, o_lload, o_lret, o_lstore, o_lushr, o_putI, hpe, pkL_L]
            try simp +contextual (disch := omega) only [impF, impT, and_true, true_and, implies_true, not_false_eq_true, not_true_eq_false]
            refine x_wk [vR z, vI k, vL x, vJ, vI L, vI n, vJ, vJ, vJ, vJ, vJ, vJ] (by simp [z_wk]) ?_
            refine skip nl' hnl' (Nat.le_refl _) (fun q => q) (fun t ht hf => ?_)
            obtain ⟨e1, e2, e3⟩ := enum_k (by omega) hs4 (by omega) ht
            rw [fwB_down (by omega) e1 hb, fwB_np e3 hp] at hf
            cases hf
    have h0 := hlo 5 nl (by omega) hnl (Nat.le_refl _) (fun q => q) (fun v h1 h2 => by omega) (by rw [enum_s, enV_filter, e7])
    rw [show ((5 : Nat) : Int) - 1 = 4 by omega] at h0
    refine z_run1 tsX2_firstWithin [19] 20 ?_
    simp (maxSteps := 1000000) -implicitDefEqProofs +contextual (disch := omega) only [z_wp_t, z_wp_u, ↓pI_e, ↓pL_e, ↓pO_e, ↓pR_e, ↓p1_I, ↓p1_O, z_gl, z_st1, z_st2, z_nl_I, z_nl_O, z_nl_J, z_nl_L, if_true, if_false, ite_true, ite_false, true_and, and_true, List.mem_cons, List.not_mem_nil, or_false, false_or, or_self, List.length_cons, List.length_nil, InR_t, InL_t, z_ix_t, mI_s1, mI_s2, ↓brT, ↓brF, ↓brT', ↓brF', mL_sI, mR_sI, mK_sI, mS_sI, mI_sL, mL_s1, mL_s2, mR_sL, mK_sL, mS_sL, mI_sR, mL_sR, mR_s1, mR_s2, mK_sR, mS_sR, mA_s1, mA_s2, mL_sA, mR_sA, mK_sA, mS_sA, ix_n, ix_a, ix_m, ix_s, z_sw, z_stop, forall_const, true_implies, false_implies, imp_self, implies_true, not_true_eq_false, not_false_eq_true, ne_eq, eq_self, Option.some.injEq, reduceCtorEq, Nat.reduceAdd, Nat.reduceSub, Nat.reduceMul, Nat.reduceEqDiff, Nat.reduceLT, Nat.reduceLeDiff, Int.reduceAdd, Int.reduceMul, Int.reduceSub, Int.reduceNeg, Int.reduceToNat, Int.reduceLT, Int.reduceLE, Int.reduceEq, ↓reduceIte, List.reverse_cons, Option.toList, List.cons_append, List.nil_append, vI_inj, vL_inj, vO_inj, rI, rL, rO, rV, mI_sQ, mL_sQ, mK_sQ, mS_sQ, mQ_s1, mQ_s2, iL_and, iL_or, iL_xor, iL_shl, iL_ushr, iR_and, iR_or, iR_xor, iR_shl, iR_shr, iR_ushr, iR_cmp, yc0, tlX2_firstWithin, tkX2_firstWithin, o_aload, o_getI, o_getR, o_goto, o_iadd, o_ic, o_icle, o_iclt, o_ifeq, o_iflt, o_ifne, o_ifnull, o_iinc, o_iload, o_imul, o_istore, o_lald, o_land, o_lc, o_lcmp, o_lload, o_lret, o_lstore, o_lushr, o_putI]
    try simp +contextual (disch := omega) only [impF, impT, and_true, true_and, implies_true, not_false_eq_true, not_true_eq_false]
    exact h0
