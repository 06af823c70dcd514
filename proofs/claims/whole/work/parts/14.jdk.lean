/-! the JDK's small methods, isPack, isVersion -/
theorem x_max {l : Launch} {G : zG} {μ : zM} {lv mc ms : Nat} {Q : Option zV → zH → Prop} {cells slots : Nat} {h : zH} {pc i : Nat} {ls rest : List zV} {a b : Int} (hd : decode μ.2.1 pc = .ok (.invokestatic i, 3)) (cv : z_CS μ.1.cls i mtJ9_max_7cf53 2) (ha : InR a) (hb : InR b) (hr : rest.length ≤ 4) (kk : z_X l G μ lv mc ms Q cells slots h (pc + 3) ls (vI (if a < b then b else a) :: rest)) : z_X l G μ lv mc ms Q cells slots h pc ls (vI b :: vI a :: rest) := by
  intro p e s m args below meth c H locs A C hR hS hL hn hc1 hc2 hlv
  have hts := C.2.2.2.2.2.2.2.1
  obtain ⟨⟨w1, w2, w3, w4, w5⟩, w6⟩ := cv
  have h1 := z_catsum G.1 rest
  refine va_mmax (x := Int32.ofInt a) (y := Int32.ofInt b) C.1 C.2.1 (by rw [C.2.2.1]; exact (hL.1.trans hn).symm) C.2.2.2.2.2.2.1 (hts _ w1) (hts _ w6) (hts _ w3) (hts _ w2) hlv (by show _ + 13 ≤ 40 * lv; omega) hc1 hc2 hd ?_
  have hk := kk p e s m args below meth c H locs A C hR hS hL hn hc1 hc2 hlv
  have e1 : (if Int32.ofInt a < Int32.ofInt b then Int32.ofInt b else Int32.ofInt a) = Int32.ofInt (if a < b then b else a) := by
    by_cases q : a < b
    · rw [if_pos q, if_pos ((z_clt ha hb).mpr q)]
    · rw [if_neg q, if_neg (fun w => q ((z_clt ha hb).mp w))]
  rw [e1]
  exact hk
theorem x_min {l : Launch} {G : zG} {μ : zM} {lv mc ms : Nat} {Q : Option zV → zH → Prop} {cells slots : Nat} {h : zH} {pc i : Nat} {ls rest : List zV} {a b : Int} (hd : decode μ.2.1 pc = .ok (.invokestatic i, 3)) (cv : z_CS μ.1.cls i mtJ9_min_7cf53 2) (ha : InR a) (hb : InR b) (hr : rest.length ≤ 4) (kk : z_X l G μ lv mc ms Q cells slots h (pc + 3) ls (vI (if b < a then b else a) :: rest)) : z_X l G μ lv mc ms Q cells slots h pc ls (vI b :: vI a :: rest) := by
  intro p e s m args below meth c H locs A C hR hS hL hn hc1 hc2 hlv
  have hts := C.2.2.2.2.2.2.2.1
  obtain ⟨⟨w1, w2, w3, w4, w5⟩, w6⟩ := cv
  have h1 := z_catsum G.1 rest
  refine va_mmin (x := Int32.ofInt a) (y := Int32.ofInt b) C.1 C.2.1 (by rw [C.2.2.1]; exact (hL.1.trans hn).symm) C.2.2.2.2.2.2.1 (hts _ w1) (hts _ w6) (hts _ w3) (hts _ w2) hlv (by show _ + 13 ≤ 40 * lv; omega) hc1 hc2 hd ?_
  have hk := kk p e s m args below meth c H locs A C hR hS hL hn hc1 hc2 hlv
  have e1 : (if Int32.ofInt b < Int32.ofInt a then Int32.ofInt b else Int32.ofInt a) = Int32.ofInt (if b < a then b else a) := by
    by_cases q : b < a
    · rw [if_pos q, if_pos ((z_clt hb ha).mpr q)]
    · rw [if_neg q, if_neg (fun w => q ((z_clt hb ha).mp w))]
  rw [e1]
  exact hk
set_option maxHeartbeats 4000000 in
theorem sp_isPack (l : Launch) (G : zG) (h : zH) (p : Int) (hp : InR p) (lv : Nat) (hlv : 1 ≤ lv) : z_Sp l G mtX7_isPack lv 0 0 [vI p] h (rI (if 0 ≤ p ∧ p < 8 then 1 else 0) h) := by
  unfold InR at hp
  refine x_enter [vI p] (by decide +kernel) (by omega) rfl (Nat.le_of_ble_eq_true rfl) ?_
  refine z_run1 tsX7_isPack [] 20 ?_
  simp +contextual (disch := omega) only [z_wp_s, z_wp_0, pI_e, pL_e, pO_e, pR_e, p1_I, p1_O, z_gl, z_st1, z_st2, z_nl_I, z_nl_O, z_nl_J, z_nl_L, if_true, if_false, ite_true, ite_false, true_and, and_true, List.mem_cons, List.not_mem_nil, or_false, false_or, or_self, List.length_cons, List.length_nil, InR_t, InL_t, z_ix_t, mI_s1, mI_s2, ↓brT, ↓brF, ↓brT', ↓brF', mL_sI, mR_sI, mK_sI, mS_sI, mI_sL, mL_s1, mL_s2, mR_sL, mK_sL, mS_sL, mI_sR, mL_sR, mR_s1, mR_s2, mK_sR, mS_sR, mA_s1, mA_s2, mL_sA, mR_sA, mK_sA, mS_sA, ix_n, ix_a, ix_m, ix_s, z_sw, z_stop, forall_const, true_implies, false_implies, imp_self, implies_true, not_true_eq_false, not_false_eq_true, ne_eq, eq_self, Option.some.injEq, reduceCtorEq, Nat.reduceAdd, Nat.reduceSub, Nat.reduceMul, Nat.reduceEqDiff, Nat.reduceLT, Nat.reduceLeDiff, Int.reduceAdd, Int.reduceMul, Int.reduceSub, Int.reduceNeg, Int.reduceToNat, Int.reduceLT, Int.reduceLE, Int.reduceEq, ↓reduceIte, List.reverse_cons, Option.toList, List.cons_append, List.nil_append, vI_inj, vL_inj, vO_inj, rI, rL, rO, rV, tlX7_isPack, o_goto, o_ic, o_icge, o_iflt, o_iload, o_zret]
  refine ⟨fun q => ?_, fun q => ⟨fun q2 => ?_, fun q2 => ?_⟩⟩
  · rw [if_neg (by omega)]
  · rw [if_neg (by omega)]
  · rw [if_pos (by omega)]
theorem sp_isPack1 (l : Launch) (G : zG) (h : zH) (p : Int) (hp : 0 ≤ p ∧ p < 8) (lv : Nat) (hlv : 1 ≤ lv) : z_Sp l G mtX7_isPack lv 0 0 [vI p] h (rI 1 h) := by
  have := sp_isPack l G h p (by unfold InR; omega) lv hlv
  rw [if_pos hp] at this
  exact this
theorem sp_isPack0 (l : Launch) (G : zG) (h : zH) (p : Int) (hp : ¬ (0 ≤ p ∧ p < 8)) (hr : InR p) (lv : Nat) (hlv : 1 ≤ lv) : z_Sp l G mtX7_isPack lv 0 0 [vI p] h (rI 0 h) := by
  have := sp_isPack l G h p hr lv hlv
  rw [if_neg hp] at this
  exact this
set_option maxHeartbeats 4000000 in
theorem sp_isVersion (l : Launch) (G : zG) (h : zH) (p : Int) (hp : InR p) (lv : Nat) (hlv : 1 ≤ lv) : z_Sp l G mtX7_isVersion lv 0 0 [vI p] h (rI (if 0 ≤ p ∧ p ≤ 999 then 1 else 0) h) := by
  unfold InR at hp
  refine x_enter [vI p] (by decide +kernel) (by omega) rfl (Nat.le_of_ble_eq_true rfl) ?_
  refine z_run1 tsX7_isVersion [] 20 ?_
  simp +contextual (disch := omega) only [z_wp_s, z_wp_0, pI_e, pL_e, pO_e, pR_e, p1_I, p1_O, z_gl, z_st1, z_st2, z_nl_I, z_nl_O, z_nl_J, z_nl_L, if_true, if_false, ite_true, ite_false, true_and, and_true, List.mem_cons, List.not_mem_nil, or_false, false_or, or_self, List.length_cons, List.length_nil, InR_t, InL_t, z_ix_t, mI_s1, mI_s2, ↓brT, ↓brF, ↓brT', ↓brF', mL_sI, mR_sI, mK_sI, mS_sI, mI_sL, mL_s1, mL_s2, mR_sL, mK_sL, mS_sL, mI_sR, mL_sR, mR_s1, mR_s2, mK_sR, mS_sR, mA_s1, mA_s2, mL_sA, mR_sA, mK_sA, mS_sA, ix_n, ix_a, ix_m, ix_s, z_sw, z_stop, forall_const, true_implies, false_implies, imp_self, implies_true, not_true_eq_false, not_false_eq_true, ne_eq, eq_self, Option.some.injEq, reduceCtorEq, Nat.reduceAdd, Nat.reduceSub, Nat.reduceMul, Nat.reduceEqDiff, Nat.reduceLT, Nat.reduceLeDiff, Int.reduceAdd, Int.reduceMul, Int.reduceSub, Int.reduceNeg, Int.reduceToNat, Int.reduceLT, Int.reduceLE, Int.reduceEq, ↓reduceIte, List.reverse_cons, Option.toList, List.cons_append, List.nil_append, vI_inj, vL_inj, vO_inj, rI, rL, rO, rV, tlX7_isVersion, o_goto, o_ic, o_icgt, o_iflt, o_iload, o_zret]
  refine ⟨fun q => ?_, fun q => ⟨fun q2 => ?_, fun q2 => ?_⟩⟩
  · rw [if_neg (by omega)]
  · rw [if_neg (by omega)]
  · rw [if_pos (by omega)]
