/-! RuleText.makeRule -/
theorem x_callV8 {l : Launch} {G : zG} {μ ν : zM} {lv mc ms lv' mc' ms' : Nat} {Q Q' : Option zV → zH → Prop} {cells slots : Nat} {h : zH} {pc i n : Nat} {ls st : List zV} {av rest : List zV} {c0 a : Nat} (hd : decode μ.2.1 pc = .ok (.invokevirtual i, 3)) (cv : z_CV μ.1.cls i ν n c0) (hsp : z_Sp l G ν lv' mc' ms' (vR a :: av) h Q') (hka : (gK h a).1 = c0) (hlv0 : lv' + 1 ≤ lv) (hav : av.length = n) (k1 : cells + mc' ≤ mc) (k2 : slots + ms' ≤ ms) (hst : st = av.reverse ++ vR a :: rest) (hr : ∀ b, ((rest.map (z_mv b)).map fun v => v.category).sum ≤ 8)
    (kk : ∀ r h', Q' r h' → z_X l G μ lv mc ms Q (cells + mc') (slots + ms') h' (pc + 3) ls (r.toList ++ rest)) : z_X l G μ lv mc ms Q cells slots h pc ls st := by
  subst hst
  intro p e s m args below meth c H locs A C hR hS hL hn hc1 hc2 hlv
  have hts := C.2.2.2.2.2.2.2.1
  have hkn := C.2.2.2.2.2.2.2.2.1
  obtain ⟨⟨w1, w2, w3, w4, w5⟩, w6, w7, w8, w9⟩ := cv
  have hlt := z_lt hR hka (by omega)
  have hP := z_at (H := H) (z_cE_o (b := G.1) (ac := G.2.2) hka w8) hlt
  have hrr : 2 * (F0 m pc A ((av.reverse ++ vR a :: rest).map (z_mv G.1))).monitorRoom + ((rest.map (z_mv G.1)).map fun v => v.category).sum ≤ 8 := by
    have := hr G.1
    show 2 * 0 + _ ≤ 8
    omega
  refine z_cont (va_runV (As := av.map (z_mv G.1)) (rest := rest.map (z_mv G.1)) (b := G.1 + a) (C := ν.1.cls) ⟨C.1, C.2.1, C.2.2.1, C.2.2.2.2.2.2.1, hts⟩ hsp ⟨callB_of n hts (z_goodc hts w2) rfl rfl rfl (hts _ w3) (hts _ w1) w4 (z_room hlv0 w5), hts _ w6, hts _ w7⟩ ⟨z_blind, ?_, fun U hU hW => ⟨rfl, by rw [hU]; exact hR, hkn.warm hW, by rw [hU, hR.2.1]; omega⟩⟩ rfl (by rw [List.length_map]; exact hav) (hL.1.trans hn) (by show List.map _ _ = _; rw [List.map_append, List.map_reverse]; rfl) hrr hd ⟨k1, k2⟩) hS fun r h' H1 locs1 hq hR1 hS1 => ?_
  · have := va_recv hkn.1 hR.1 (z_clok c0 w8).1 hP
    rw [← w9]
    exact this
  · rw [z_lastmap]
    exact kk r h' hq p e s m args below meth c H1 locs1 A C hR1 hS1 hL hn k1 k2 hlv
theorem Fx.L {h h' : zH} (f : Fx h h') {q : Nat} {l : List (Int × Int)} (hq : q + 2 < gS h) (hr : RgL h q l) : RgL h' q l := by
  obtain ⟨⟨⟨k0, k1, k2, r0, r1, hN⟩, hn, hnN, hb⟩, hf⟩ := hr
  have e0 := f.2 q (by omega)
  have e1 := f.2 (q + 1) (by omega)
  have e2 := f.2 (q + 2) (by omega)
  refine ⟨⟨⟨by rw [e0.1]; exact k0, by rw [e1.1]; exact k1, by rw [e2.1]; exact k2, by rw [e0.2.2.2]; exact r0, by rw [e0.2.2.2]; exact r1, hN⟩, by rw [e0.2.1]; exact hn, hnN, by rw [e1.2.1, e2.2.1]; exact hb⟩, ?_⟩
  rw [e1.2.1, e2.2.1]
  exact hf
set_option maxHeartbeats 4000000 in
theorem sp_makeRule (l : Launch) (G : zG) (h : zH) (f t : Nat → Int) (n : Nat) (fe cp fb tp : Int) (cl tl : List (Int × Int)) (hT : Tx h f t n) (h4 : f 4 = fe) (h5 : f 5 = cp) (h7 : f 7 = fb) (h8 : f 8 = tp) (hc : RgL h 87 cl) (ht : RgL h 90 tl) (hfb : fb = 0 ∨ fb = 1) (hsz : 109 ≤ gS h) (lv : Nat) (hlv : 4 ≤ lv) : z_Sp l G mtX5_makeRule lv 7 92 [vR 85] (sA h 85 f) (fun r h' => r = some (vR (gS h)) ∧ Fx (sA h 85 f) h' ∧ gS h' = gS h + 7 ∧ RuOK h' (gS h) ((fe, cp, fb, tp), inL cl, inL tl)) := by
  obtain ⟨k0, k1, r0, r1, r2, hn, hf1, htt, hb⟩ := hT
  have hs0 : gS (sA h 85 f) = gS h := rfl
  generalize hs : gS h = s at hsz hs0 ⊢
  refine x_enter [vR 85] (by decide +kernel) (by omega) rfl (Nat.le_of_ble_eq_true rfl) ?_
  generalize hQ : (fun (r : Option zV) (h' : zH) => r = some (vR s) ∧ Fx (sA h 85 f) h' ∧ gS h' = s + 7 ∧ RuOK h' s ((fe, cp, fb, tp), inL cl, inL tl)) = QQ
  have hc0 : RgL (sA h 85 f) 87 cl := hc.fr (Fr.sA (fun c => c = 85) h 85 f rfl) ⟨by omega, by omega, by omega⟩
  have ht0 : RgL (sA h 85 f) 90 tl := ht.fr (Fr.sA (fun c => c = 85) h 85 f rfl) ⟨by omega, by omega, by omega⟩
  have m4 : gI (sA h 85 f) 85 4 = fe := by rw [mA_s1]; exact h4
  have m5 : gI (sA h 85 f) 85 5 = cp := by rw [mA_s1]; exact h5
  have m7 : gI (sA h 85 f) 85 7 = fb := by rw [mA_s1]; exact h7
  have m8 : gI (sA h 85 f) 85 8 = tp := by rw [mA_s1]; exact h8
  have mk : (gK (sA h 85 f) 85).1 = 5 := k0
  have mr1 : gR (sA h 85 f) 85 6 = some 87 := r1
  have mr2 : gR (sA h 85 f) 85 9 = some 90 := r2
  generalize hh0 : sA h 85 f = h0 at hs0 hc0 ht0 m4 m5 m7 m8 mk mr1 mr2 hQ ⊢
  refine x_new 4 (by decide +kernel) (by decide) lw_X5_78 nw_X4 in_X4 (by omega) (by decide) ?_
  rw [hs0, show z_nf 4 = 6 from rfl]
  have x1 : Fx h0 (nC h0 (4, 0)) := Fx.nC _ _
  have g1 : gS (nC h0 (4, 0)) = s + 1 := by rw [mS_nC, hs0]
  have e0 := x1.2 85 (by omega)
  have q4 : gI (nC h0 (4, 0)) 85 4 = fe := by rw [e0.2.1]; exact m4
  have q5 : gI (nC h0 (4, 0)) 85 5 = cp := by rw [e0.2.1]; exact m5
  have qk : (gK (nC h0 (4, 0)) 85).1 = 5 := by rw [e0.1]; exact mk
  have qr : gR (nC h0 (4, 0)) 85 6 = some 87 := by rw [e0.2.2.2]; exact mr1
  have qs : (gK (nC h0 (4, 0)) s).1 = 4 := by rw [← hs0, mK_n1]
  have hc1 := x1.L (by omega) hc0
  generalize hh1 : nC h0 (4, 0) = h1 at x1 g1 e0 q4 q5 qk qr qs hc1 ⊢
  refine z_run1 tsX5_makeRule [] 30 ?_
  simp (maxSteps := 1000000) -implicitDefEqProofs +contextual (disch := omega) only [z_wp_t, z_wp_u, ↓pI_e, ↓pL_e, ↓pO_e, ↓pR_e, ↓p1_I, ↓p1_O, z_gl, z_st1, z_st2, z_nl_I, z_nl_O, z_nl_J, z_nl_L, if_true, if_false, ite_true, ite_false, true_and, and_true, List.mem_cons, List.not_mem_nil, or_false, false_or, or_self, List.length_cons, List.length_nil, InR_t, InL_t, z_ix_t, mI_s1, mI_s2, ↓brT, ↓brF, ↓brT', ↓brF', mL_sI, mR_sI, mK_sI, mS_sI, mI_sL, mL_s1, mL_s2, mR_sL, mK_sL, mS_sL, mI_sR, mL_sR, mR_s1, mR_s2, mK_sR, mS_sR, mA_s1, mA_s2, mL_sA, mR_sA, mK_sA, mS_sA, ix_n, ix_a, ix_m, ix_s, z_sw, z_stop, forall_const, true_implies, false_implies, imp_self, implies_true, not_true_eq_false, not_false_eq_true, ne_eq, eq_self, Option.some.injEq, reduceCtorEq, Nat.reduceAdd, Nat.reduceSub, Nat.reduceMul, Nat.reduceEqDiff, Nat.reduceLT, Nat.reduceLeDiff, Int.reduceAdd, Int.reduceMul, Int.reduceSub, Int.reduceNeg, Int.reduceToNat, Int.reduceLT, Int.reduceLE, Int.reduceEq, ↓reduceIte, List.reverse_cons, Option.toList, List.cons_append, List.nil_append, vI_inj, vL_inj, vO_inj, rI, rL, rO, rV, mI_sQ, mL_sQ, mK_sQ, mS_sQ, mQ_s1, mQ_s2, tlX5_makeRule, tkX5_makeRule, o_aload, o_aret, o_dup, o_getI, o_getR, q4, q5, qk, qr]
  try simp +contextual (disch := omega) only [impF, impT, and_true, true_and, implies_true, not_false_eq_true, not_true_eq_false]
  refine x_callV8 (by decide +kernel) cv_X5_80 (sp_trimmed l G h1 87 20 cl.length hc1.1 (by omega) 3 (by omega)) hc1.1.1.1 (by omega) rfl (by omega) (by omega) rfl (fun b => by simp [z_mv, vI, vO, va_rf, Value.category]) ?_
  rintro r h2 ⟨rfl, x2, g2, p2, c2⟩
  rw [g1] at g2 p2 c2 ⊢
  have x02 := x1.tr x2
  have e2 := x02.2 85 (by omega)
  have w7 : gI h2 85 7 = fb := by rw [e2.2.1]; exact m7
  have w8 : gI h2 85 8 = tp := by rw [e2.2.1]; exact m8
  have wk : (gK h2 85).1 = 5 := by rw [e2.1]; exact mk
  have wr : gR h2 85 9 = some 90 := by rw [e2.2.2.2]; exact mr2
  have ht2 := x02.L (by omega) ht0
  have ok2 := RgP.copy hc1 p2 c2
  refine z_run1 tsX5_makeRule [] 30 ?_
  simp (maxSteps := 1000000) -implicitDefEqProofs +contextual (disch := omega) only [z_wp_t, z_wp_u, ↓pI_e, ↓pL_e, ↓pO_e, ↓pR_e, ↓p1_I, ↓p1_O, z_gl, z_st1, z_st2, z_nl_I, z_nl_O, z_nl_J, z_nl_L, if_true, if_false, ite_true, ite_false, true_and, and_true, List.mem_cons, List.not_mem_nil, or_false, false_or, or_self, List.length_cons, List.length_nil, InR_t, InL_t, z_ix_t, mI_s1, mI_s2, ↓brT, ↓brF, ↓brT', ↓brF', mL_sI, mR_sI, mK_sI, mS_sI, mI_sL, mL_s1, mL_s2, mR_sL, mK_sL, mS_sL, mI_sR, mL_sR, mR_s1, mR_s2, mK_sR, mS_sR, mA_s1, mA_s2, mL_sA, mR_sA, mK_sA, mS_sA, ix_n, ix_a, ix_m, ix_s, z_sw, z_stop, forall_const, true_implies, false_implies, imp_self, implies_true, not_true_eq_false, not_false_eq_true, ne_eq, eq_self, Option.some.injEq, reduceCtorEq, Nat.reduceAdd, Nat.reduceSub, Nat.reduceMul, Nat.reduceEqDiff, Nat.reduceLT, Nat.reduceLeDiff, Int.reduceAdd, Int.reduceMul, Int.reduceSub, Int.reduceNeg, Int.reduceToNat, Int.reduceLT, Int.reduceLE, Int.reduceEq, ↓reduceIte, List.reverse_cons, Option.toList, List.cons_append, List.nil_append, vI_inj, vL_inj, vO_inj, rI, rL, rO, rV, mI_sQ, mL_sQ, mK_sQ, mS_sQ, mQ_s1, mQ_s2, tlX5_makeRule, tkX5_makeRule, o_aload, o_aret, o_dup, o_getI, o_getR, w7, w8, wk, wr]
  try simp +contextual (disch := omega) only [impF, impT, and_true, true_and, implies_true, not_false_eq_true, not_true_eq_false]
  refine x_callV8 (by decide +kernel) cv_X5_80 (sp_trimmed l G h2 90 20 tl.length ht2.1 (by omega) 3 (by omega)) ht2.1.1.1 (by omega) rfl (by omega) (by omega) rfl (fun b => by simp [z_mv, vI, vO, va_rf, Value.category]) ?_
  rintro r h3 ⟨rfl, x3, g3, p3, c3⟩
  rw [g2] at g3 p3 c3 ⊢
  have ok3 := RgP.copy ht2 p3 c3
  have ok23 := x3.ok (by omega) ok2
  have es := (x2.tr x3).2 s (by omega)
  have ks : (gK h3 s).1 = 4 := by rw [es.1]; exact qs
  refine z_run1 tsX5_makeRule [] 30 ?_
  simp (maxSteps := 1000000) -implicitDefEqProofs +contextual (disch := omega) only [z_wp_t, z_wp_u, ↓pI_e, ↓pL_e, ↓pO_e, ↓pR_e, ↓p1_I, ↓p1_O, z_gl, z_st1, z_st2, z_nl_I, z_nl_O, z_nl_J, z_nl_L, if_true, if_false, ite_true, ite_false, true_and, and_true, List.mem_cons, List.not_mem_nil, or_false, false_or, or_self, List.length_cons, List.length_nil, InR_t, InL_t, z_ix_t, mI_s1, mI_s2, ↓brT, ↓brF, ↓brT', ↓brF', mL_sI, mR_sI, mK_sI, mS_sI, mI_sL, mL_s1, mL_s2, mR_sL, mK_sL, mS_sL, mI_sR, mL_sR, mR_s1, mR_s2, mK_sR, mS_sR, mA_s1, mA_s2, mL_sA, mR_sA, mK_sA, mS_sA, ix_n, ix_a, ix_m, ix_s, z_sw, z_stop, forall_const, true_implies, false_implies, imp_self, implies_true, not_true_eq_false, not_false_eq_true, ne_eq, eq_self, Option.some.injEq, reduceCtorEq, Nat.reduceAdd, Nat.reduceSub, Nat.reduceMul, Nat.reduceEqDiff, Nat.reduceLT, Nat.reduceLeDiff, Int.reduceAdd, Int.reduceMul, Int.reduceSub, Int.reduceNeg, Int.reduceToNat, Int.reduceLT, Int.reduceLE, Int.reduceEq, ↓reduceIte, List.reverse_cons, Option.toList, List.cons_append, List.nil_append, vI_inj, vL_inj, vO_inj, rI, rL, rO, rV, mI_sQ, mL_sQ, mK_sQ, mS_sQ, mQ_s1, mQ_s2, tlX5_makeRule, tkX5_makeRule, o_aload, o_aret, o_dup, o_getI, o_getR]
  try simp +contextual (disch := omega) only [impF, impT, and_true, true_and, implies_true, not_false_eq_true, not_true_eq_false]
  refine x_callI (by decide +kernel) cv_X5_84 (sp_RuInit l G h3 s fe cp fb tp (some (s + 1)) (some (s + 1 + 3)) ks hfb 1 (by omega)) (by omega) rfl (by omega) (by omega) rfl (Nat.le_of_ble_eq_true rfl) ?_
  rintro r h4 ⟨rfl, rfl⟩
  refine z_run1 tsX5_makeRule [] 30 ?_
  simp (maxSteps := 1000000) -implicitDefEqProofs +contextual (disch := omega) only [z_wp_t, z_wp_u, ↓pI_e, ↓pL_e, ↓pO_e, ↓pR_e, ↓p1_I, ↓p1_O, z_gl, z_st1, z_st2, z_nl_I, z_nl_O, z_nl_J, z_nl_L, if_true, if_false, ite_true, ite_false, true_and, and_true, List.mem_cons, List.not_mem_nil, or_false, false_or, or_self, List.length_cons, List.length_nil, InR_t, InL_t, z_ix_t, mI_s1, mI_s2, ↓brT, ↓brF, ↓brT', ↓brF', mL_sI, mR_sI, mK_sI, mS_sI, mI_sL, mL_s1, mL_s2, mR_sL, mK_sL, mS_sL, mI_sR, mL_sR, mR_s1, mR_s2, mK_sR, mS_sR, mA_s1, mA_s2, mL_sA, mR_sA, mK_sA, mS_sA, ix_n, ix_a, ix_m, ix_s, z_sw, z_stop, forall_const, true_implies, false_implies, imp_self, implies_true, not_true_eq_false, not_false_eq_true, ne_eq, eq_self, Option.some.injEq, reduceCtorEq, Nat.reduceAdd, Nat.reduceSub, Nat.reduceMul, Nat.reduceEqDiff, Nat.reduceLT, Nat.reduceLeDiff, Int.reduceAdd, Int.reduceMul, Int.reduceSub, Int.reduceNeg, Int.reduceToNat, Int.reduceLT, Int.reduceLE, Int.reduceEq, ↓reduceIte, List.reverse_cons, Option.toList, List.cons_append, List.nil_append, vI_inj, vL_inj, vO_inj, rI, rL, rO, rV, mI_sQ, mL_sQ, mK_sQ, mS_sQ, mQ_s1, mQ_s2, tlX5_makeRule, tkX5_makeRule, o_aload, o_aret, o_dup, o_getI, o_getR]
  try simp +contextual (disch := omega) only [impF, impT, and_true, true_and, implies_true, not_false_eq_true, not_true_eq_false]
  rw [← hQ]
  have hfr : Fr (fun c => c = s) h3 (sR (sI (sI (sR (sI (sI h3 s 0 fe) s 1 cp) s 2 (some (s + 1))) s 3 fb) s 4 tp) s 5 (some (s + 1 + 3))) := by
    refine Fr.tr' (Fr.tr' (Fr.tr' (Fr.tr' (Fr.tr' (Fr.sI (fun c => c = s) _ _ _ _ rfl) (Fr.sI (fun c => c = s) _ _ _ _ rfl) (fun _ q => q) (fun _ q => q)) (Fr.sR (fun c => c = s) _ _ _ _ rfl) (fun _ q => q) (fun _ q => q)) (Fr.sI (fun c => c = s) _ _ _ _ rfl) (fun _ q => q) (fun _ q => q)) (Fr.sI (fun c => c = s) _ _ _ _ rfl) (fun _ q => q) (fun _ q => q)) (Fr.sR (fun c => c = s) _ _ _ _ rfl) (fun _ q => q) (fun _ q => q)
  refine ⟨rfl, (x02.tr x3).fr hfr (fun a ha => by omega), by rw [hfr.S, g3], hsz, by rw [hfr.K]; exact ks, ?_, ?_, ?_, ?_, ?_, ?_, ⟨_, ok23.fr hfr ⟨by omega, by omega, by omega⟩⟩, ⟨_, ok3.fr hfr ⟨by omega, by omega, by omega⟩⟩⟩
  all_goals (simp (disch := omega) only [mI_sR, mR_sI, mI_s1, mI_s2, mR_s1, mR_s2]; first | rfl | skip)
