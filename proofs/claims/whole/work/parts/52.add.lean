/-! VersionResolver.add -/
def KB (h : zH) : Prop := ∀ a, gS h ≤ a → 14 ≤ (gK h a).1
theorem x_KB {l : Launch} {G : zG} {μ : zM} {lv mc ms : Nat} {Q : Option zV → zH → Prop} {cells slots : Nat} {h : zH} {pc : Nat} {ls st : List zV} (kk : KB h → z_X l G μ lv mc ms Q cells slots h pc ls st) : z_X l G μ lv mc ms Q cells slots h pc ls st := by
  intro p e s m args below meth c H locs A C hR hS hL hn hc1 hc2 hlv
  exact kk hR.2.2 p e s m args below meth c H locs A C hR hS hL hn hc1 hc2 hlv
theorem KB.lt {h : zH} {a : Nat} (hK : KB h) (hk : (gK h a).1 < 14) : a < gS h := by
  by_cases q : a < gS h
  · exact q
  · have := hK a (by omega); omega
theorem RgOK.fx {h h' : zH} (f : Fx h h') (hK : KB h) {q N : Nat} {g : Int → Bool} (hr : RgOK h q N g) : RgOK h' q N g := by
  have hr' := hr
  obtain ⟨n, ⟨⟨k0, k1, k2, -⟩, -⟩, -⟩ := hr'
  exact f.ok (hK.lt (by rw [k2]; show 9 < 14; omega)) hr
theorem RuOK.fx {h h' : zH} (f : Fx h h') (hK : KB h) {q : Nat} {R : zRu} (hr : RuOK h q R) : RuOK h' q R := by
  obtain ⟨h0, h1, h2, h3, h4, h5, h6, h7, ⟨N, h8⟩, M, h9⟩ := hr
  obtain ⟨e1, e2, e3, e4⟩ := f.2 q (hK.lt (by rw [h1]; decide))
  exact ⟨h0, by rw [e1]; exact h1, by rw [e2]; exact h2, by rw [e2]; exact h3, by rw [e4]; exact h4, by rw [e2]; exact h5, by rw [e2]; exact h6, by rw [e4]; exact h7, ⟨N, h8.fx f hK⟩, M, h9.fx f hK⟩
/-- all cells below 109 stay -/
def Lo (h h' : zH) : Prop := ∀ a, a < 109 → gK h' a = gK h a ∧ gI h' a = gI h a ∧ gL h' a = gL h a ∧ gR h' a = gR h a
theorem Fx.lo {h h' : zH} (f : Fx h h') (hs : 109 ≤ gS h) : Lo h h' := fun a ha => f.2 a (by omega)
theorem ShS.lo {h h' : zH} (f : Fx h h') (hs : 109 ≤ gS h) (hK : KB h) {a : Nat} (ha : a + 4 < 109) (hr : ShS h a) : ShS h' a := by
  have L := f.lo hs
  obtain ⟨k0, k1, k2, k3, k4, r0, r1, r2, r3, hty⟩ := hr
  refine ⟨by rw [(L a (by omega)).1]; exact k0, by rw [(L _ (by omega)).1]; exact k1, by rw [(L _ (by omega)).1]; exact k2, by rw [(L _ (by omega)).1]; exact k3, by rw [(L _ (by omega)).1]; exact k4, by rw [(L _ (by omega)).2.2.2]; exact r0, by rw [(L _ (by omega)).2.2.2]; exact r1, by rw [(L _ (by omega)).2.2.2]; exact r2, by rw [(L _ (by omega)).2.2.2]; exact r3, fun r q hq => ?_⟩
  rw [(L _ (by omega)).2.2.2] at hq
  have := hty r q hq
  rw [(f.2 q (hK.lt (by rw [this]; decide))).1]
  exact this
theorem StOK.lo {h h' : zH} (f : Fx h h') (hs : 109 ≤ gS h) (hK : KB h) {a : Nat} {A : zA} (ha : a + 4 < 109) (hr : StOK h a A) : StOK h' a A := by
  have L := f.lo hs
  obtain ⟨h1, h2, h3, h4, h5, h6, h7⟩ := hr
  refine ⟨h1.lo f hs hK ha, by rw [(L _ (by omega)).2.1]; exact h2, by rw [(L _ (by omega)).2.1]; exact h3, by rw [(L _ (by omega)).2.1]; exact h4, by rw [(L _ (by omega)).2.1]; exact h5, by rw [(L _ (by omega)).2.1]; exact h6, fun r hr => ?_⟩
  obtain ⟨q, g1, g2⟩ := h7 r hr
  exact ⟨q, by rw [(L _ (by omega)).2.2.2]; exact g1, g2.fx f hK⟩
theorem HiOK.lo {h h' : zH} (f : Fx h h') (hs : 109 ≤ gS h) (hK : KB h) {l : List zA} (hr : HiOK h l) : HiOK h' l := by
  have L := f.lo hs
  obtain ⟨⟨h1, h2, h3, h4, h5⟩, h6, h7, o, h8, h9, h10⟩ := hr
  refine ⟨⟨by rw [(L _ (by omega)).1]; exact h1, by rw [(L _ (by omega)).1]; exact h2, by rw [(L _ (by omega)).2.2.2]; exact h3, by rw [(L _ (by omega)).2.2.2]; exact h4, fun i hi => (h5 i hi).lo f hs hK (by omega)⟩, h6, by rw [(L _ (by omega)).2.1]; exact h7, o, h8, by rw [(L _ (by omega)).2.1]; exact h9, fun j A hj => ?_⟩
  obtain ⟨g1, g2⟩ := h10 j A hj
  exact ⟨g1.lo f hs hK (by omega), g2⟩
theorem ShP.lo {h h' : zH} (L : Lo h h') {z : Nat} (hz : z + 5 < 109) (hr : ShP h z) : ShP h' z := by
  unfold ShP at *
  rw [(L z (by omega)).1, (L (z + 1) (by omega)).1, (L (z + 2) (by omega)).1, (L (z + 3) (by omega)).1, (L (z + 4) (by omega)).1, (L (z + 5) (by omega)).1, (L z (by omega)).2.2.2]
  exact hr
theorem ShO.lo {h h' : zH} (L : Lo h h') {o : Nat} (ho : o + 15 < 109) (hr : ShO h o) : ShO h' o := by
  obtain ⟨a1, a2, a3, a4, a5, a6, a7, a8, a9, a10, a11, a12⟩ := hr
  refine ⟨?_, ?_, ?_, ?_, ?_, ?_, ?_, ?_, ?_, ?_, ?_, a12.lo L (by omega)⟩
  · rw [(L o (by omega)).1]; exact a1
  · rw [(L (o + 12) (by omega)).1]; exact a2
  · rw [(L (o + 13) (by omega)).1]; exact a3
  · rw [(L (o + 14) (by omega)).1]; exact a4
  · rw [(L (o + 15) (by omega)).1]; exact a5
  all_goals (rw [(L o (by omega)).2.2.2]; assumption)
theorem ShV.lo {h h' : zH} (L : Lo h h') (hr : ShV h) : ShV h' := by
  unfold ShV at *
  rw [(L 0 (by omega)).1, (L 0 (by omega)).2.2.2]
  exact hr
theorem RgS.lo {h h' : zH} (L : Lo h h') {q N : Nat} (hq : q + 2 < 109) (hr : RgS h q N) : RgS h' q N := by
  unfold RgS at *
  rw [(L q (by omega)).1, (L (q + 1) (by omega)).1, (L (q + 2) (by omega)).1, (L q (by omega)).2.2.2]
  exact hr
theorem TxO.lo {h h' : zH} (L : Lo h h') {t : Nat → Int} {n : Nat} (hr : TxO h t n) : TxO h' t n := by
  obtain ⟨⟨q1, q2, q3, q4, q5, q6, q7, q8, q9⟩, h1, h2⟩ := hr
  refine ⟨⟨by rw [(L 85 (by omega)).1]; exact q1, by rw [(L 86 (by omega)).1]; exact q2, by rw [(L 85 (by omega)).2.2.2]; exact q3, by rw [(L 85 (by omega)).2.2.2]; exact q4, by rw [(L 85 (by omega)).2.2.2]; exact q5, q6, by rw [(L 85 (by omega)).2.1]; exact q7, by rw [(L 86 (by omega)).2.1]; exact q8, q9⟩, h1.lo L (by omega), h2.lo L (by omega)⟩
theorem Gx.fx {h h' : zH} (f : Fx h h') : Gx h h' := ⟨f.1, fun a _ ha => f.2 a ha⟩
abbrev mkR (d : zD) : zRu := ((d.1, d.2.1, d.2.2.2.1, d.2.2.2.2.1), inL d.2.2.1, inL d.2.2.2.2.2)
def addR (A : zA) (R : zRu) : zA := (A.1, (aC A + 1, aF A), up (aR A) (aC A) R)
theorem rdRule_ok {t : Nat → Int} {n : Nat} {d : zD} (h : rdRule t n = .inr d) : RuA (mkR d) := by
  unfold rdRule at h
  split at h
  · cases h
  · rename_i a ha
    split at h
    · cases h
    · rename_i b hb
      split at h
      · cases h
      · rename_i c hc
        cases h
        have h1 : 0 ≤ a.1 ∧ a.1 ≤ 4 := by
          unfold rdA at ha
          split at ha
          · split at ha
            · cases ha
              simp only
              omega
            · cases ha
          · cases ha
            simp
        have h2 : -1 ≤ b.1 ∧ b.1 ≤ 7 := by
          unfold rdB at hb
          split at hb
          · cases hb; simp
          · split at hb
            · split at hb
              · cases hb; simp only; omega
              · cases hb
            · cases hb
        have hD : ∀ (i : Nat) (fb : Int) (x : Int × Int × List (Int × Int)), rdD t n i fb = .inr x → x.1 = fb ∧ 0 ≤ x.2.1 ∧ x.2.1 ≤ 7 := by
          intro i fb x hx
          unfold rdD at hx
          split at hx
          · split at hx
            · cases hx; simp only; exact ⟨trivial, by omega, by omega⟩
            · cases hx
          · cases hx
        have h3 : (c.1 = 0 ∨ c.1 = 1) ∧ 0 ≤ c.2.1 ∧ c.2.1 ≤ 7 := by
          unfold rdC at hc
          split at hc
          · split at hc
            · have := hD _ _ _ hc; exact ⟨Or.inr this.1, this.2⟩
            · have := hD _ _ _ hc; exact ⟨Or.inl this.1, this.2⟩
          · cases hc
        exact ⟨h1, h2, h3.1, h3.2⟩
theorem addR_ok {A : zA} {R : zRu} (hA : AOK A) (hR : RuA R) (hc : aC A < 20) : AOK (addR A R) := by
  obtain ⟨a1, a2, a3, a4, a5, a6, a7⟩ := hA
  refine ⟨a1, a2, a3, a4, ?_, a6, fun j hj => ?_⟩
  · show aC A + 1 ≤ 20; omega
  · have hj : j < aC A + 1 := hj
    show RuA (up (aR A) (aC A) R j)
    by_cases e : j = aC A
    · rw [e, up_s]; exact hR
    · rw [up_n _ _ e]; exact a7 j (by omega)
theorem StOK.add {h : zH} {a q : Nat} {A : zA} {R : zRu} (hS : StOK h a A) (hR : RuOK h q R) (ha : a + 4 < 109) : StOK (sI (sR h (a + 4) (aC A) (some q)) a 4 (aC A + 1)) a (addR A R) := by
  have f3 : Fr (fun c => c = a ∨ c = a + 4) h (sI (sR h (a + 4) (aC A) (some q)) a 4 (aC A + 1)) := (Fr.sR (fun c => c = a ∨ c = a + 4) _ _ _ _ (Or.inr rfl)).tr' (Fr.sI (fun c => c = a ∨ c = a + 4) _ _ _ _ (Or.inl rfl)) (fun _ q => q) (fun _ q => q)
  obtain ⟨⟨k0, k1, k2, k3, k4, r0, r1, r2, r3, hty⟩, q2, q3, q4, q5, q6, q7⟩ := hS
  have eI : ∀ b j, (b ≠ a ∨ j ≠ 4) → gI (sI (sR h (a + 4) (aC A) (some q)) a 4 (aC A + 1)) b j = gI h b j := fun b j hb => by rw [mI_s2 _ _ hb, mI_sR]
  have eR : ∀ b j, b ≠ a + 4 → gR (sI (sR h (a + 4) (aC A) (some q)) a 4 (aC A + 1)) b j = gR h b j := fun b j hb => by rw [mR_sI, mR_s2 _ _ (Or.inl hb)]
  have eK : gK (sI (sR h (a + 4) (aC A) (some q)) a 4 (aC A + 1)) = gK h := rfl
  have eR4 : ∀ j, gR (sI (sR h (a + 4) (aC A) (some q)) a 4 (aC A + 1)) (a + 4) j = if j = aC A then some q else gR h (a + 4) j := fun j => by
    rw [mR_sI, mR_sR]
    by_cases e : j = aC A <;> simp [e]
  have e4 : gI (sI (sR h (a + 4) (aC A) (some q)) a 4 (aC A + 1)) a 4 = aC A + 1 := mI_s1 _ _ _ _
  generalize sI (sR h (a + 4) (aC A) (some q)) a 4 (aC A + 1) = h' at *
  refine ⟨⟨by rw [eK]; exact k0, by rw [eK]; exact k1, by rw [eK]; exact k2, by rw [eK]; exact k3, by rw [eK]; exact k4, by rw [eR _ _ (by omega)]; exact r0, by rw [eR _ _ (by omega)]; exact r1, by rw [eR _ _ (by omega)]; exact r2, by rw [eR _ _ (by omega)]; exact r3, fun r x hx => ?_⟩, fun p hp => by rw [eI _ _ (by omega)]; exact q2 p hp, fun p i hp hi => by rw [eI _ _ (by omega)]; exact q3 p i hp hi, fun p hp => by rw [eI _ _ (by omega)]; exact q4 p hp, e4, by rw [eI _ _ (by omega)]; exact q6, fun r hr => ?_⟩
  · rw [eR4] at hx
    rw [eK]
    split at hx
    · cases hx; exact hR.2.1
    · exact hty r x hx
  · have hr : r < aC A + 1 := hr
    show ∃ q', gR h' (a + 4) r = some q' ∧ RuOK h' q' (up (aR A) (aC A) R r)
    by_cases e : r = aC A
    · refine ⟨q, by rw [eR4, if_pos e], ?_⟩
      rw [e, up_s]
      exact hR.fr f3 (fun q hq => by omega)
    · obtain ⟨x, g1, g2⟩ := q7 r (by omega)
      refine ⟨x, by rw [eR4, if_neg e]; exact g1, ?_⟩
      rw [up_n _ _ e]
      exact g2.fr f3 (fun q hq => by omega)
def fAdd (s : zS) : Int × zS := match rdRule (sTx s) (sTn s) with
  | .inl _ => (-3, s)
  | .inr d => if 20 ≤ aC (sW s) then (-4, s) else ((aC (sW s) : Int), addR (sW s) (mkR d), hPush (sHs s) (sW s), sTx s, 0)
theorem rdX_R {t : Nat → Int} {n : Nat} (hn : n ≤ 40) : ∀ j, rdRule t n = .inl j → j ≤ 40 := by
  intro j h
  have hs : ∀ i, i ≤ n → sk t n i ≤ n := fun i hi => (sk_le t hi).2
  have hc : ∀ i, ck t n i ≠ -1 → i + 1 ≤ n := fun i hi => ck_lt hi
  have hp : ∀ i, i ≤ n → (pRg t n 20 i []).2.1 ≤ n := fun i hi => (pRg_ok 20 i [] hi).2
  have hA : ∀ x, rdA t n = .inr x → x.2 ≤ n := by
    intro x hx
    unfold rdA at hx
    split at hx
    · rename_i h1
      split at hx
      · rename_i h2
        cases hx
        exact hs _ (hc _ (by omega))
      · cases hx
    · cases hx; exact hs _ (by omega)
  have hA2 : ∀ x, rdA t n = .inl x → x ≤ n := by
    intro x hx
    unfold rdA at hx
    split at hx
    · rename_i h1
      split at hx
      · cases hx
      · cases hx; exact hs _ (hc _ (by omega))
    · cases hx
  have hB : ∀ i x, i ≤ n → rdB t n i = .inr x → x.2.1 ≤ n := by
    intro i x hi hx
    unfold rdB at hx
    split at hx
    · cases hx; exact hi
    · split at hx
      · rename_i h2
        split at hx
        · cases hx; exact hp _ (hs _ (hc _ (by omega)))
        · cases hx
      · cases hx
  have hB2 : ∀ i x, i ≤ n → rdB t n i = .inl x → x ≤ n := by
    intro i x hi hx
    unfold rdB at hx
    split at hx
    · cases hx
    · split at hx
      · rename_i h2
        split at hx
        · cases hx
        · cases hx; exact hp _ (hs _ (hc _ (by omega)))
      · cases hx; exact hi
  have hD2 : ∀ i fb x, i ≤ n → rdD t n i fb = .inl x → x ≤ n := by
    intro i fb x hi hx
    unfold rdD at hx
    split at hx
    · rename_i h2
      split at hx
      · cases hx
      · cases hx; exact hp _ (hs _ (hc _ (by omega)))
    · cases hx; exact hi
  have hC2 : ∀ i x, i ≤ n → rdC t n i = .inl x → x ≤ n := by
    intro i x hi hx
    unfold rdC at hx
    split at hx
    · rename_i h1
      split at hx
      · rename_i h2
        exact hD2 _ _ _ (hs _ (hc _ (by omega))) hx
      · exact hD2 _ _ _ (hs _ (hc _ (by omega))) hx
    · cases hx; exact hi
  unfold rdRule at h
  split at h
  · rename_i a ha; cases h; have := hA2 _ ha; omega
  · rename_i a ha
    have h1 := hA _ ha
    split at h
    · rename_i b hb; cases h; have := hB2 _ _ h1 hb; omega
    · rename_i b hb
      have h2 := hB _ _ h1 hb
      split at h
      · rename_i c hc'; cases h; have := hC2 _ _ h2 hc'; omega
      · cases h
set_option maxRecDepth 4000 in
set_option maxHeartbeats 4000000 in
theorem sp_add (l : Launch) (G : zG) (h : zH) (s : zS) (hC : CI h s) (lv : Nat) (hlv : 7 ≤ lv) : z_Sp l G mtX7_add lv 7 92 [vR 0] (h) (cQ h (fAdd s)) := by
  refine x_enter [vR 0] (by decide +kernel) (by omega) rfl (Nat.le_of_ble_eq_true rfl) ?_
  generalize hQ : cQ h (fAdd s) = QQ
  obtain ⟨v0, v1, v2, v3, v4, v5, v6⟩ := hC.1
  obtain ⟨hT, hr1, hr2⟩ := hC.2.2.2.2.2.1
  have hA := hC.2.2.1
  have kt := hT.1
  have hn40 := hT.2.2.2.2.2.1
  have h1 := sp_readAsRule l G h (gI h 85) (sTx s) (sTn s) hT hr1 hr2 6 (by omega)
  rw [sA_self] at h1
  refine z_run1 tsX7_add [] 20 ?_
  simp (maxSteps := 1000000) -implicitDefEqProofs +contextual (disch := omega) only [z_wp_t, z_wp_u, ↓pI_e, ↓pL_e, ↓pO_e, ↓pR_e, ↓p1_I, ↓p1_O, z_gl, z_st1, z_st2, z_nl_I, z_nl_O, z_nl_J, z_nl_L, if_true, if_false, ite_true, ite_false, true_and, and_true, List.mem_cons, List.not_mem_nil, or_false, false_or, or_self, List.length_cons, List.length_nil, InR_t, InL_t, z_ix_t, mI_s1, mI_s2, ↓brT, ↓brF, ↓brT', ↓brF', mL_sI, mR_sI, mK_sI, mS_sI, mI_sL, mL_s1, mL_s2, mR_sL, mK_sL, mS_sL, mI_sR, mL_sR, mR_s1, mR_s2, mK_sR, mS_sR, mA_s1, mA_s2, mL_sA, mR_sA, mK_sA, mS_sA, ix_n, ix_a, ix_m, ix_s, z_sw, z_stop, forall_const, true_implies, false_implies, imp_self, implies_true, not_true_eq_false, not_false_eq_true, ne_eq, eq_self, Option.some.injEq, reduceCtorEq, Nat.reduceAdd, Nat.reduceSub, Nat.reduceMul, Nat.reduceEqDiff, Nat.reduceLT, Nat.reduceLeDiff, Int.reduceAdd, Int.reduceMul, Int.reduceSub, Int.reduceNeg, Int.reduceToNat, Int.reduceLT, Int.reduceLE, Int.reduceEq, ↓reduceIte, List.reverse_cons, Option.toList, List.cons_append, List.nil_append, vI_inj, vL_inj, vO_inj, rI, rL, rO, rV, mI_sQ, mL_sQ, mK_sQ, mS_sQ, mQ_s1, mQ_s2, iL_and, iL_or, iL_xor, iL_shl, iL_ushr, iR_and, iR_or, iR_xor, iR_shl, iR_shr, iR_ushr, iR_cmp, yc0, tlX7_add, tkX7_add, o_aload, o_getR, o_ic, o_iceq, o_iclt, o_iret, o_isub, v0, v6]
  try simp +contextual (disch := omega) only [impF, impT, and_true, true_and, implies_true, not_false_eq_true, not_true_eq_false]
  refine x_callV (by decide +kernel) cv_X7_126 (h1) kt (by omega) rfl (by omega) (by omega) rfl (Nat.le_of_ble_eq_true rfl) ?_
  rintro r h' ⟨rfl, h2, g, rfl, f2, g1, q1, q2, hd⟩
  have hT2 : Tx h2 g (sTx s) (sTn s) := (hT.fr f2 ⟨by omega, by omega⟩).up g1
  obtain ⟨hC2, hG2⟩ := hC.txt (f2.tr' (Fr.sA (fun c => 85 ≤ c ∧ c ≤ 92) h2 85 g (by omega)) (fun c q => by omega) (fun _ q => q)) (TxO.mk' hT2 q1 q2)
  have hgg : gI (sA h2 85 g) 85 = g := mI_sAs _ _ _
  have hL := fun (d : zD) (hd' : rdRule (sTx s) (sTn s) = .inr d) => hd d hd'
  have frA : Fr (fun c => c = 85) h2 (sA h2 85 g) := Fr.sA _ _ _ _ rfl
  have hL2 : ∀ (d : zD), rdRule (sTx s) (sTn s) = .inr d → g 4 = d.1 ∧ g 5 = d.2.1 ∧ RgL (sA h2 85 g) 87 d.2.2.1 ∧ g 7 = d.2.2.2.1 ∧ g 8 = d.2.2.2.2.1 ∧ RgL (sA h2 85 g) 90 d.2.2.2.2.2 := fun d hd' => by
    obtain ⟨x1, x2, x3, x4, x5, x6⟩ := hd d hd'
    exact ⟨x1, x2, x3.fr frA ⟨by omega, by omega, by omega⟩, x4, x5, x6.fr frA ⟨by omega, by omega, by omega⟩⟩
  generalize sA h2 85 g = h3 at *
  obtain ⟨u0, u1, u2, u3, u4, u5, u6⟩ := hC2.1
  have hS := hC2.2.1.1.2.1
  cases hrd : rdRule (sTx s) (sTn s) with
  | inl j =>
    have hj := rdX_R hn40 j hrd
    rw [fAdd, hrd] at hQ
    rw [show fltX (Sum.inl j : Nat ⊕ zD) = (j : Int) from rfl]
    refine z_run1 tsX7_add [] 20 ?_
    simp (maxSteps := 1000000) -implicitDefEqProofs +contextual (disch := omega) only [z_wp_t, z_wp_u, ↓pI_e, ↓pL_e, ↓pO_e, ↓pR_e, ↓p1_I, ↓p1_O, z_gl, z_st1, z_st2, z_nl_I, z_nl_O, z_nl_J, z_nl_L, if_true, if_false, ite_true, ite_false, true_and, and_true, List.mem_cons, List.not_mem_nil, or_false, false_or, or_self, List.length_cons, List.length_nil, InR_t, InL_t, z_ix_t, mI_s1, mI_s2, ↓brT, ↓brF, ↓brT', ↓brF', mL_sI, mR_sI, mK_sI, mS_sI, mI_sL, mL_s1, mL_s2, mR_sL, mK_sL, mS_sL, mI_sR, mL_sR, mR_s1, mR_s2, mK_sR, mS_sR, mA_s1, mA_s2, mL_sA, mR_sA, mK_sA, mS_sA, ix_n, ix_a, ix_m, ix_s, z_sw, z_stop, forall_const, true_implies, false_implies, imp_self, implies_true, not_true_eq_false, not_false_eq_true, ne_eq, eq_self, Option.some.injEq, reduceCtorEq, Nat.reduceAdd, Nat.reduceSub, Nat.reduceMul, Nat.reduceEqDiff, Nat.reduceLT, Nat.reduceLeDiff, Int.reduceAdd, Int.reduceMul, Int.reduceSub, Int.reduceNeg, Int.reduceToNat, Int.reduceLT, Int.reduceLE, Int.reduceEq, ↓reduceIte, List.reverse_cons, Option.toList, List.cons_append, List.nil_append, vI_inj, vL_inj, vO_inj, rI, rL, rO, rV, mI_sQ, mL_sQ, mK_sQ, mS_sQ, mQ_s1, mQ_s2, iL_and, iL_or, iL_xor, iL_shl, iL_ushr, iR_and, iR_or, iR_xor, iR_shl, iR_shr, iR_ushr, iR_cmp, yc0, tlX7_add, tkX7_add, o_aload, o_getR, o_ic, o_iceq, o_iclt, o_iret, o_isub]
    try simp +contextual (disch := omega) only [impF, impT, and_true, true_and, implies_true, not_false_eq_true, not_true_eq_false]
    rw [← hQ]
    exact ⟨rfl, hC2, hG2⟩
  | inr d =>
    rw [fAdd, hrd] at hQ
    rw [show fltX (Sum.inr d : Nat ⊕ zD) = -1 from rfl]
    obtain ⟨x1, x2, x3, x4, x5, x6⟩ := hL2 d hrd
    have hRA := rdRule_ok hrd
    refine z_run1 tsX7_add [] 20 ?_
    simp (maxSteps := 1000000) -implicitDefEqProofs +contextual (disch := omega) only [z_wp_t, z_wp_u, ↓pI_e, ↓pL_e, ↓pO_e, ↓pR_e, ↓p1_I, ↓p1_O, z_gl, z_st1, z_st2, z_nl_I, z_nl_O, z_nl_J, z_nl_L, if_true, if_false, ite_true, ite_false, true_and, and_true, List.mem_cons, List.not_mem_nil, or_false, false_or, or_self, List.length_cons, List.length_nil, InR_t, InL_t, z_ix_t, mI_s1, mI_s2, ↓brT, ↓brF, ↓brT', ↓brF', mL_sI, mR_sI, mK_sI, mS_sI, mI_sL, mL_s1, mL_s2, mR_sL, mK_sL, mS_sL, mI_sR, mL_sR, mR_s1, mR_s2, mK_sR, mS_sR, mA_s1, mA_s2, mL_sA, mR_sA, mK_sA, mS_sA, ix_n, ix_a, ix_m, ix_s, z_sw, z_stop, forall_const, true_implies, false_implies, imp_self, implies_true, not_true_eq_false, not_false_eq_true, ne_eq, eq_self, Option.some.injEq, reduceCtorEq, Nat.reduceAdd, Nat.reduceSub, Nat.reduceMul, Nat.reduceEqDiff, Nat.reduceLT, Nat.reduceLeDiff, Int.reduceAdd, Int.reduceMul, Int.reduceSub, Int.reduceNeg, Int.reduceToNat, Int.reduceLT, Int.reduceLE, Int.reduceEq, ↓reduceIte, List.reverse_cons, Option.toList, List.cons_append, List.nil_append, vI_inj, vL_inj, vO_inj, rI, rL, rO, rV, mI_sQ, mL_sQ, mK_sQ, mS_sQ, mQ_s1, mQ_s2, iL_and, iL_or, iL_xor, iL_shl, iL_ushr, iR_and, iR_or, iR_xor, iR_shl, iR_shr, iR_ushr, iR_cmp, yc0, tlX7_add, tkX7_add, o_aload, o_getR, o_ic, o_iceq, o_iclt, o_iret, o_isub, u0, u2]
    try simp +contextual (disch := omega) only [impF, impT, and_true, true_and, implies_true, not_false_eq_true, not_true_eq_false]
    refine x_callV (by decide +kernel) cv_X7_132 (sp_ruleCount l G h3 2 (sW s) hS 1 (by omega)) hS.1.1 (by omega) rfl (by omega) (by omega) rfl (Nat.le_of_ble_eq_true rfl) ?_
    rintro r h' ⟨rfl, hE⟩
    subst h'
    have h20 := hA.2.2.2.2.1
    by_cases hfull : 20 ≤ aC (sW s)
    · have hQ' : cQ h (-4, s) = QQ := by rw [← hQ]; simp only [if_pos hfull]
      refine z_run1 tsX7_add [] 20 ?_
      simp (maxSteps := 1000000) -implicitDefEqProofs +contextual (disch := omega) only [z_wp_t, z_wp_u, ↓pI_e, ↓pL_e, ↓pO_e, ↓pR_e, ↓p1_I, ↓p1_O, z_gl, z_st1, z_st2, z_nl_I, z_nl_O, z_nl_J, z_nl_L, if_true, if_false, ite_true, ite_false, true_and, and_true, List.mem_cons, List.not_mem_nil, or_false, false_or, or_self, List.length_cons, List.length_nil, InR_t, InL_t, z_ix_t, mI_s1, mI_s2, ↓brT, ↓brF, ↓brT', ↓brF', mL_sI, mR_sI, mK_sI, mS_sI, mI_sL, mL_s1, mL_s2, mR_sL, mK_sL, mS_sL, mI_sR, mL_sR, mR_s1, mR_s2, mK_sR, mS_sR, mA_s1, mA_s2, mL_sA, mR_sA, mK_sA, mS_sA, ix_n, ix_a, ix_m, ix_s, z_sw, z_stop, forall_const, true_implies, false_implies, imp_self, implies_true, not_true_eq_false, not_false_eq_true, ne_eq, eq_self, Option.some.injEq, reduceCtorEq, Nat.reduceAdd, Nat.reduceSub, Nat.reduceMul, Nat.reduceEqDiff, Nat.reduceLT, Nat.reduceLeDiff, Int.reduceAdd, Int.reduceMul, Int.reduceSub, Int.reduceNeg, Int.reduceToNat, Int.reduceLT, Int.reduceLE, Int.reduceEq, ↓reduceIte, List.reverse_cons, Option.toList, List.cons_append, List.nil_append, vI_inj, vL_inj, vO_inj, rI, rL, rO, rV, mI_sQ, mL_sQ, mK_sQ, mS_sQ, mQ_s1, mQ_s2, iL_and, iL_or, iL_xor, iL_shl, iL_ushr, iR_and, iR_or, iR_xor, iR_shl, iR_shr, iR_ushr, iR_cmp, yc0, tlX7_add, tkX7_add, o_aload, o_getR, o_ic, o_iceq, o_iclt, o_iret, o_isub]
      try simp +contextual (disch := omega) only [impF, impT, and_true, true_and, implies_true, not_false_eq_true, not_true_eq_false]
      rw [← hQ']
      exact ⟨rfl, hC2, hG2⟩
    · have hQ' : cQ h ((aC (sW s) : Int), addR (sW s) (mkR d), hPush (sHs s) (sW s), sTx s, 0) = QQ := by rw [← hQ]; simp only [if_neg hfull]
      refine z_run1 tsX7_add [] 20 ?_
      simp (maxSteps := 1000000) -implicitDefEqProofs +contextual (disch := omega) only [z_wp_t, z_wp_u, ↓pI_e, ↓pL_e, ↓pO_e, ↓pR_e, ↓p1_I, ↓p1_O, z_gl, z_st1, z_st2, z_nl_I, z_nl_O, z_nl_J, z_nl_L, if_true, if_false, ite_true, ite_false, true_and, and_true, List.mem_cons, List.not_mem_nil, or_false, false_or, or_self, List.length_cons, List.length_nil, InR_t, InL_t, z_ix_t, mI_s1, mI_s2, ↓brT, ↓brF, ↓brT', ↓brF', mL_sI, mR_sI, mK_sI, mS_sI, mI_sL, mL_s1, mL_s2, mR_sL, mK_sL, mS_sL, mI_sR, mL_sR, mR_s1, mR_s2, mK_sR, mS_sR, mA_s1, mA_s2, mL_sA, mR_sA, mK_sA, mS_sA, ix_n, ix_a, ix_m, ix_s, z_sw, z_stop, forall_const, true_implies, false_implies, imp_self, implies_true, not_true_eq_false, not_false_eq_true, ne_eq, eq_self, Option.some.injEq, reduceCtorEq, Nat.reduceAdd, Nat.reduceSub, Nat.reduceMul, Nat.reduceEqDiff, Nat.reduceLT, Nat.reduceLeDiff, Int.reduceAdd, Int.reduceMul, Int.reduceSub, Int.reduceNeg, Int.reduceToNat, Int.reduceLT, Int.reduceLE, Int.reduceEq, ↓reduceIte, List.reverse_cons, Option.toList, List.cons_append, List.nil_append, vI_inj, vL_inj, vO_inj, rI, rL, rO, rV, mI_sQ, mL_sQ, mK_sQ, mS_sQ, mQ_s1, mQ_s2, iL_and, iL_or, iL_xor, iL_shl, iL_ushr, iR_and, iR_or, iR_xor, iR_shl, iR_shr, iR_ushr, iR_cmp, yc0, tlX7_add, tkX7_add, o_aload, o_getR, o_ic, o_iceq, o_iclt, o_iret, o_isub]
      try simp +contextual (disch := omega) only [impF, impT, and_true, true_and, implies_true, not_false_eq_true, not_true_eq_false]
      refine x_callV (by decide +kernel) cv_X7_59 (sp_beginChange l G h3 (sW s) (sHs s) hC2.1 hC2.2.1.1.1 hC2.2.2.2.2.1 hS hA 3 (by omega)) u0 (by omega) rfl (by omega) (by omega) rfl (Nat.le_of_ble_eq_true rfl) ?_
      rintro r h' ⟨rfl, h4, rfl, f4, hH4⟩
      obtain ⟨c1, c2, c3, c4, c5⟩ := hC2.beg f4 hH4
      have hz := fgt_0 h4 1
      have hc5 := hC2.chg c1 (by rw [c2, c3]) hz c4 hA c5
      generalize fgt h4 1 = h5 at *
      obtain ⟨hC5, hG5⟩ := hc5
      have hG5' := hG2.tr hG5
      obtain ⟨w0, w1, w2, w3, w4, w5, w6⟩ := hC5.1
      obtain ⟨hT5, hr51, hr52⟩ := hC5.2.2.2.2.2.1
      have hS5 : StOK h5 2 (sW s) := hC5.2.1.1.2.1
      have e85 : gI h5 85 = g := by rw [c1.I (by unfold ChS; omega)]; exact hgg
      have y3 := x3.fr c1 ⟨by unfold ChS; omega, by unfold ChS; omega, by unfold ChS; omega⟩
      have y6 := x6.fr c1 ⟨by unfold ChS; omega, by unfold ChS; omega, by unfold ChS; omega⟩
      have hmk := sp_makeRule l G h5 (gI h5 85) (sTx s) (sTn s) d.1 d.2.1 d.2.2.2.1 d.2.2.2.2.1 d.2.2.1 d.2.2.2.2.2 hT5 (by rw [e85]; exact x1) (by rw [e85]; exact x2) (by rw [e85]; exact x4) (by rw [e85]; exact x5) y3 y6 hRA.2.2.1 hC5.2.2.2.2.2.2 4 (by omega)
      rw [sA_self] at hmk
      refine x_KB fun hKB5 => ?_
      refine z_run1 tsX7_add [] 20 ?_
      simp (maxSteps := 1000000) -implicitDefEqProofs +contextual (disch := omega) only [z_wp_t, z_wp_u, ↓pI_e, ↓pL_e, ↓pO_e, ↓pR_e, ↓p1_I, ↓p1_O, z_gl, z_st1, z_st2, z_nl_I, z_nl_O, z_nl_J, z_nl_L, if_true, if_false, ite_true, ite_false, true_and, and_true, List.mem_cons, List.not_mem_nil, or_false, false_or, or_self, List.length_cons, List.length_nil, InR_t, InL_t, z_ix_t, mI_s1, mI_s2, ↓brT, ↓brF, ↓brT', ↓brF', mL_sI, mR_sI, mK_sI, mS_sI, mI_sL, mL_s1, mL_s2, mR_sL, mK_sL, mS_sL, mI_sR, mL_sR, mR_s1, mR_s2, mK_sR, mS_sR, mA_s1, mA_s2, mL_sA, mR_sA, mK_sA, mS_sA, ix_n, ix_a, ix_m, ix_s, z_sw, z_stop, forall_const, true_implies, false_implies, imp_self, implies_true, not_true_eq_false, not_false_eq_true, ne_eq, eq_self, Option.some.injEq, reduceCtorEq, Nat.reduceAdd, Nat.reduceSub, Nat.reduceMul, Nat.reduceEqDiff, Nat.reduceLT, Nat.reduceLeDiff, Int.reduceAdd, Int.reduceMul, Int.reduceSub, Int.reduceNeg, Int.reduceToNat, Int.reduceLT, Int.reduceLE, Int.reduceEq, ↓reduceIte, List.reverse_cons, Option.toList, List.cons_append, List.nil_append, vI_inj, vL_inj, vO_inj, rI, rL, rO, rV, mI_sQ, mL_sQ, mK_sQ, mS_sQ, mQ_s1, mQ_s2, iL_and, iL_or, iL_xor, iL_shl, iL_ushr, iR_and, iR_or, iR_xor, iR_shl, iR_shr, iR_ushr, iR_cmp, yc0, tlX7_add, tkX7_add, o_aload, o_getR, o_ic, o_iceq, o_iclt, o_iret, o_isub, w0, w2, w6]
      try simp +contextual (disch := omega) only [impF, impT, and_true, true_and, implies_true, not_false_eq_true, not_true_eq_false]
      refine x_callV (by decide +kernel) cv_X7_135 (hmk) hT5.1 (by omega) rfl (by omega) (by omega) rfl (Nat.le_of_ble_eq_true rfl) ?_
      rintro r h6 ⟨rfl, fx, hsz, hRu⟩
      have L6 := fx.lo hC5.2.2.2.2.2.2
      have hS6 : StOK h6 2 (sW s) := hS5.lo fx hC5.2.2.2.2.2.2 hKB5 (by omega)
      have hV6 := hC5.1.lo L6
      have hO6 := hC5.2.1.1.1.lo L6 (by omega)
      have hH6 := hC5.2.2.2.2.1.lo fx hC5.2.2.2.2.2.2 hKB5
      have hT6 := hC5.2.2.2.2.2.1.lo L6
      have hz6 : gI h6 1 3 = 0 ∧ gI h6 1 5 = 0 ∧ gI h6 1 7 = 0 ∧ gI h6 1 9 = 0 ∧ gI h6 1 10 = 0 := by rw [(L6 1 (by omega)).2.1]; exact hz
      have hC6 : CI h6 (sW s, hPush (sHs s) (sW s), sTx s, sTn s) := ⟨hV6, ⟨⟨hO6, hS6, by unfold NlOK; rw [(L6 _ (by omega)).2.1]; exact hC5.2.1.1.2.2⟩, Or.inl hz6.1, Or.inl hz6.2.1, Or.inl hz6.2.2.1, Or.inl hz6.2.2.2.1, Or.inl hz6.2.2.2.2⟩, hA, ⟨hC5.2.2.2.1.1.lo L6 (by omega), hC5.2.2.2.1.2.1.lo fx hC5.2.2.2.2.2.2 hKB5 (by omega), by unfold NlOK; rw [(L6 _ (by omega)).2.1]; exact hC5.2.2.2.1.2.2⟩, hH6, hT6, by rw [hsz]; have := hC5.2.2.2.2.2.2; omega⟩
      have hG6 := hG5'.tr (Gx.fx fx)
      have hS7 : StOK (sI (sR h6 (2 + 4) (aC (sW s)) (some (gS h5))) 2 4 (aC (sW s) + 1)) 2 (addR (sW s) (mkR d)) := hS6.add hRu (by omega)
      have f7 : Fr ChS h6 (sI (sR h6 (2 + 4) (aC (sW s)) (some (gS h5))) 2 4 (aC (sW s) + 1)) := (Fr.sR ChS _ _ _ _ (by unfold ChS; omega)).tr' (Fr.sI ChS _ _ _ _ (by unfold ChS; omega)) (fun _ q => q) (fun _ q => q)
      refine z_run1 tsX7_add [] 20 ?_
      simp (maxSteps := 1000000) -implicitDefEqProofs +contextual (disch := omega) only [z_wp_t, z_wp_u, ↓pI_e, ↓pL_e, ↓pO_e, ↓pR_e, ↓p1_I, ↓p1_O, z_gl, z_st1, z_st2, z_nl_I, z_nl_O, z_nl_J, z_nl_L, if_true, if_false, ite_true, ite_false, true_and, and_true, List.mem_cons, List.not_mem_nil, or_false, false_or, or_self, List.length_cons, List.length_nil, InR_t, InL_t, z_ix_t, mI_s1, mI_s2, ↓brT, ↓brF, ↓brT', ↓brF', mL_sI, mR_sI, mK_sI, mS_sI, mI_sL, mL_s1, mL_s2, mR_sL, mK_sL, mS_sL, mI_sR, mL_sR, mR_s1, mR_s2, mK_sR, mS_sR, mA_s1, mA_s2, mL_sA, mR_sA, mK_sA, mS_sA, ix_n, ix_a, ix_m, ix_s, z_sw, z_stop, forall_const, true_implies, false_implies, imp_self, implies_true, not_true_eq_false, not_false_eq_true, ne_eq, eq_self, Option.some.injEq, reduceCtorEq, Nat.reduceAdd, Nat.reduceSub, Nat.reduceMul, Nat.reduceEqDiff, Nat.reduceLT, Nat.reduceLeDiff, Int.reduceAdd, Int.reduceMul, Int.reduceSub, Int.reduceNeg, Int.reduceToNat, Int.reduceLT, Int.reduceLE, Int.reduceEq, ↓reduceIte, List.reverse_cons, Option.toList, List.cons_append, List.nil_append, vI_inj, vL_inj, vO_inj, rI, rL, rO, rV, mI_sQ, mL_sQ, mK_sQ, mS_sQ, mQ_s1, mQ_s2, iL_and, iL_or, iL_xor, iL_shl, iL_ushr, iR_and, iR_or, iR_xor, iR_shl, iR_shr, iR_ushr, iR_cmp, yc0, tlX7_add, tkX7_add, o_aload, o_getR, o_ic, o_iceq, o_iclt, o_iret, o_isub]
      try simp +contextual (disch := omega) only [impF, impT, and_true, true_and, implies_true, not_false_eq_true, not_true_eq_false]
      refine x_callV (by decide +kernel) cv_X7_139 (sp_appendRule l G h6 2 (gS h5) (sW s) hS6 (by omega) hRu.2.1 1 (by omega)) hS6.1.1 (by omega) rfl (by omega) (by omega) rfl (Nat.le_of_ble_eq_true rfl) ?_
      rintro r h' ⟨rfl, hE⟩
      subst h'
      have eR7 : gR (sI (sR h6 (2 + 4) (aC (sW s)) (some (gS h5))) 2 4 (aC (sW s) + 1)) 1 = gR h6 1 := by funext j; rw [mR_sI, mR_s2 _ _ (Or.inl (by omega))]
      have hz7 : gI (sI (sR h6 (2 + 4) (aC (sW s)) (some (gS h5))) 2 4 (aC (sW s) + 1)) 1 = gI h6 1 := by funext j; rw [mI_s2 _ _ (Or.inl (by omega)), mI_sR]
      have hH7 : HiOK (sI (sR h6 (2 + 4) (aC (sW s)) (some (gS h5))) 2 4 (aC (sW s) + 1)) (hPush (sHs s) (sW s)) := hH6.fr ((Fr.sR (fun c => c = 2 ∨ c = 6) _ _ _ _ (Or.inr rfl)).tr' (Fr.sI (fun c => c = 2 ∨ c = 6) _ _ _ _ (Or.inl rfl)) (fun _ q => q) (fun _ q => q)) (fun q w => by omega)
      generalize sI (sR h6 (2 + 4) (aC (sW s)) (some (gS h5))) 2 4 (aC (sW s) + 1) = h7 at *
      obtain ⟨hC7, hG7⟩ := hC6.chg f7 eR7 (by rw [hz7]; exact hz6) hS7 (addR_ok hA hRA (by omega)) hH7
      obtain ⟨t0, t1, t2, t3, t4, t5, t6⟩ := hC7.1
      obtain ⟨hT7, hr71, hr72⟩ := hC7.2.2.2.2.2.1
      have hcl := sp_txClear l G h7 (gI h7 85) _ _ hT7 1 (by omega)
      rw [sA_self] at hcl
      refine z_run1 tsX7_add [] 20 ?_
      simp (maxSteps := 1000000) -implicitDefEqProofs +contextual (disch := omega) only [z_wp_t, z_wp_u, ↓pI_e, ↓pL_e, ↓pO_e, ↓pR_e, ↓p1_I, ↓p1_O, z_gl, z_st1, z_st2, z_nl_I, z_nl_O, z_nl_J, z_nl_L, if_true, if_false, ite_true, ite_false, true_and, and_true, List.mem_cons, List.not_mem_nil, or_false, false_or, or_self, List.length_cons, List.length_nil, InR_t, InL_t, z_ix_t, mI_s1, mI_s2, ↓brT, ↓brF, ↓brT', ↓brF', mL_sI, mR_sI, mK_sI, mS_sI, mI_sL, mL_s1, mL_s2, mR_sL, mK_sL, mS_sL, mI_sR, mL_sR, mR_s1, mR_s2, mK_sR, mS_sR, mA_s1, mA_s2, mL_sA, mR_sA, mK_sA, mS_sA, ix_n, ix_a, ix_m, ix_s, z_sw, z_stop, forall_const, true_implies, false_implies, imp_self, implies_true, not_true_eq_false, not_false_eq_true, ne_eq, eq_self, Option.some.injEq, reduceCtorEq, Nat.reduceAdd, Nat.reduceSub, Nat.reduceMul, Nat.reduceEqDiff, Nat.reduceLT, Nat.reduceLeDiff, Int.reduceAdd, Int.reduceMul, Int.reduceSub, Int.reduceNeg, Int.reduceToNat, Int.reduceLT, Int.reduceLE, Int.reduceEq, ↓reduceIte, List.reverse_cons, Option.toList, List.cons_append, List.nil_append, vI_inj, vL_inj, vO_inj, rI, rL, rO, rV, mI_sQ, mL_sQ, mK_sQ, mS_sQ, mQ_s1, mQ_s2, iL_and, iL_or, iL_xor, iL_shl, iL_ushr, iR_and, iR_or, iR_xor, iR_shl, iR_shr, iR_ushr, iR_cmp, yc0, tlX7_add, tkX7_add, o_aload, o_getR, o_ic, o_iceq, o_iclt, o_iret, o_isub, t0, t6]
      try simp +contextual (disch := omega) only [impF, impT, and_true, true_and, implies_true, not_false_eq_true, not_true_eq_false]
      refine x_callV (by decide +kernel) cv_X7_120 (hcl) hT7.1 (by omega) rfl (by omega) (by omega) rfl (Nat.le_of_ble_eq_true rfl) ?_
      rintro r h' ⟨rfl, hE⟩
      subst h'
      obtain ⟨hC8, hG8⟩ := hC7.txt (Fr.sA (fun c => 85 ≤ c ∧ c ≤ 92) h7 85 (up (gI h7 85) 1 0) (by omega)) (TxO.mk' (Tx_clr hT7) hr71 hr72)
      generalize sA h7 85 (up (gI h7 85) 1 0) = h8 at *
      obtain ⟨p0, p1, p2, p3, p4, p5, p6⟩ := hC8.1
      have hS8 := hC8.2.1.1.2.1
      have hG9 := (hG6.tr hG7).tr hG8
      refine z_run1 tsX7_add [] 20 ?_
      simp (maxSteps := 1000000) -implicitDefEqProofs +contextual (disch := omega) only [z_wp_t, z_wp_u, ↓pI_e, ↓pL_e, ↓pO_e, ↓pR_e, ↓p1_I, ↓p1_O, z_gl, z_st1, z_st2, z_nl_I, z_nl_O, z_nl_J, z_nl_L, if_true, if_false, ite_true, ite_false, true_and, and_true, List.mem_cons, List.not_mem_nil, or_false, false_or, or_self, List.length_cons, List.length_nil, InR_t, InL_t, z_ix_t, mI_s1, mI_s2, ↓brT, ↓brF, ↓brT', ↓brF', mL_sI, mR_sI, mK_sI, mS_sI, mI_sL, mL_s1, mL_s2, mR_sL, mK_sL, mS_sL, mI_sR, mL_sR, mR_s1, mR_s2, mK_sR, mS_sR, mA_s1, mA_s2, mL_sA, mR_sA, mK_sA, mS_sA, ix_n, ix_a, ix_m, ix_s, z_sw, z_stop, forall_const, true_implies, false_implies, imp_self, implies_true, not_true_eq_false, not_false_eq_true, ne_eq, eq_self, Option.some.injEq, reduceCtorEq, Nat.reduceAdd, Nat.reduceSub, Nat.reduceMul, Nat.reduceEqDiff, Nat.reduceLT, Nat.reduceLeDiff, Int.reduceAdd, Int.reduceMul, Int.reduceSub, Int.reduceNeg, Int.reduceToNat, Int.reduceLT, Int.reduceLE, Int.reduceEq, ↓reduceIte, List.reverse_cons, Option.toList, List.cons_append, List.nil_append, vI_inj, vL_inj, vO_inj, rI, rL, rO, rV, mI_sQ, mL_sQ, mK_sQ, mS_sQ, mQ_s1, mQ_s2, iL_and, iL_or, iL_xor, iL_shl, iL_ushr, iR_and, iR_or, iR_xor, iR_shl, iR_shr, iR_ushr, iR_cmp, yc0, tlX7_add, tkX7_add, o_aload, o_getR, o_ic, o_iceq, o_iclt, o_iret, o_isub, p0, p2]
      try simp +contextual (disch := omega) only [impF, impT, and_true, true_and, implies_true, not_false_eq_true, not_true_eq_false]
      refine x_callV (by decide +kernel) cv_X7_132 (sp_ruleCount l G h8 2 (addR (sW s) (mkR d)) hS8 1 (by omega)) hS8.1.1 (by omega) rfl (by omega) (by omega) rfl (Nat.le_of_ble_eq_true rfl) ?_
      rintro r h' ⟨rfl, hE⟩
      subst h'
      rw [show ((aC (addR (sW s) (mkR d)) : Nat) : Int) = (aC (sW s) : Int) + 1 from rfl]
      refine z_run1 tsX7_add [] 20 ?_
      simp (maxSteps := 1000000) -implicitDefEqProofs +contextual (disch := omega) only [z_wp_t, z_wp_u, ↓pI_e, ↓pL_e, ↓pO_e, ↓pR_e, ↓p1_I, ↓p1_O, z_gl, z_st1, z_st2, z_nl_I, z_nl_O, z_nl_J, z_nl_L, if_true, if_false, ite_true, ite_false, true_and, and_true, List.mem_cons, List.not_mem_nil, or_false, false_or, or_self, List.length_cons, List.length_nil, InR_t, InL_t, z_ix_t, mI_s1, mI_s2, ↓brT, ↓brF, ↓brT', ↓brF', mL_sI, mR_sI, mK_sI, mS_sI, mI_sL, mL_s1, mL_s2, mR_sL, mK_sL, mS_sL, mI_sR, mL_sR, mR_s1, mR_s2, mK_sR, mS_sR, mA_s1, mA_s2, mL_sA, mR_sA, mK_sA, mS_sA, ix_n, ix_a, ix_m, ix_s, z_sw, z_stop, forall_const, true_implies, false_implies, imp_self, implies_true, not_true_eq_false, not_false_eq_true, ne_eq, eq_self, Option.some.injEq, reduceCtorEq, Nat.reduceAdd, Nat.reduceSub, Nat.reduceMul, Nat.reduceEqDiff, Nat.reduceLT, Nat.reduceLeDiff, Int.reduceAdd, Int.reduceMul, Int.reduceSub, Int.reduceNeg, Int.reduceToNat, Int.reduceLT, Int.reduceLE, Int.reduceEq, ↓reduceIte, List.reverse_cons, Option.toList, List.cons_append, List.nil_append, vI_inj, vL_inj, vO_inj, rI, rL, rO, rV, mI_sQ, mL_sQ, mK_sQ, mS_sQ, mQ_s1, mQ_s2, iL_and, iL_or, iL_xor, iL_shl, iL_ushr, iR_and, iR_or, iR_xor, iR_shl, iR_shr, iR_ushr, iR_cmp, yc0, tlX7_add, tkX7_add, o_aload, o_getR, o_ic, o_iceq, o_iclt, o_iret, o_isub]
      try simp +contextual (disch := omega) only [impF, impT, and_true, true_and, implies_true, not_false_eq_true, not_true_eq_false]
      rw [← hQ']
      refine ⟨?_, hC8, hG9⟩
      rw [Int.add_sub_cancel]
