/-! the class' object as a whole -/
abbrev zS : Type := zA × List zA × (Nat → Int) × Nat
def sW (s : zS) : zA := s.1
def sHs (s : zS) : List zA := s.2.1
def sTx (s : zS) : Nat → Int := s.2.2.1
def sTn (s : zS) : Nat := s.2.2.2
def TxO (h : zH) (t : Nat → Int) (n : Nat) : Prop := Tx h (gI h 85) t n ∧ RgS h 87 20 ∧ RgS h 90 20
def CI (h : zH) (s : zS) : Prop := ShV h ∧ OcOK h 1 (sW s) ∧ AOK (sW s) ∧ (ShO h 17 ∧ ShS h 18 ∧ NlOK h 23) ∧ HiOK h (sHs s) ∧ TxO h (sTx s) (sTn s) ∧ 109 ≤ gS h
def Gx (h h' : zH) : Prop := gS h ≤ gS h' ∧ ∀ a, 93 ≤ a → a < gS h → gK h' a = gK h a ∧ gI h' a = gI h a ∧ gL h' a = gL h a ∧ gR h' a = gR h a
theorem Gx.of {S : Nat → Prop} {h h' : zH} (f : Fr S h h') (hs : ∀ c, S c → c ≤ 92) : Gx h h' := ⟨by rw [f.S]; exact Nat.le_refl _, fun a ha _ => by
  have hn : ¬ S a := fun q => by have := hs a q; omega
  exact ⟨by rw [f.K], f.I hn, f.L hn, f.R hn⟩⟩
theorem Gx.rf {h : zH} : Gx h h := ⟨Nat.le_refl _, fun _ _ _ => ⟨rfl, rfl, rfl, rfl⟩⟩
theorem OcOK.fr {S : Nat → Prop} {h h' : zH} {o : Nat} {A : zA} (f : Fr S h h') (hs : ∀ c, o ≤ c → c ≤ o + 15 → ¬ S c) (h9 : ∀ q, 109 ≤ q → ¬ S q) (hO : OcOK h o A) : OcOK h' o A := by
  obtain ⟨⟨a1, a2, a3⟩, b1, b2, b3, b4, b5⟩ := hO
  have eI : gI h' o = gI h o := f.I (hs _ (by omega) (by omega))
  have eL : gL h' o = gL h o := f.L (hs _ (by omega) (by omega))
  refine ⟨⟨a1.ofR f.K (f.R (hs _ (by omega) (by omega))) (f.R (hs _ (by omega) (by omega))), a2.fr f h9 (fun q q1 q2 => hs q (by omega) (by omega)), a3.fr f (hs _ (by omega) (by omega))⟩, ?_, ?_, ?_, ?_, ?_⟩
  · unfold fl oc3
    rw [eI]
    rcases b1 with q | q
    · exact Or.inl q
    · exact Or.inr ⟨q.1, q.2.1, q.2.2.1.fr f (fun c q1 q2 => hs c (by omega) (by omega)), q.2.2.2.fr f (hs _ (by omega) (by omega)) (hs _ (by omega) (by omega))⟩
  · unfold fl oc5; rw [eI, eL]; exact b2
  · unfold fl oc7; rw [eI, eL]; exact b3
  · unfold fl oc9; rw [eI]; exact b4
  · unfold fl
    rw [eI]
    rcases b5 with q | ⟨q1, q2, t, q3, q4⟩
    · exact Or.inl q
    · exact Or.inr ⟨q1, q2, t, q3, q4.o (f.I (hs _ (by omega) (by omega))) (f.I (hs _ (by omega) (by omega))) (f.I (hs _ (by omega) (by omega)))⟩
theorem ShO.fr {S : Nat → Prop} {h h' : zH} {o : Nat} (f : Fr S h h') (h1 : ¬ S o) (h2 : ¬ S (o + 6)) (hO : ShO h o) : ShO h' o := hO.ofR f.K (f.R h1) (f.R h2)
theorem TxO.fr {S : Nat → Prop} {h h' : zH} {t : Nat → Int} {n : Nat} (f : Fr S h h') (hs : ∀ c, 85 ≤ c → c ≤ 92 → ¬ S c) (hT : TxO h t n) : TxO h' t n := by
  obtain ⟨h1, h2, h3⟩ := hT
  refine ⟨?_, h2.fr f (hs _ (by omega) (by omega)), h3.fr f (hs _ (by omega) (by omega))⟩
  rw [f.I (hs 85 (by omega) (by omega))]
  exact h1.fr f ⟨hs _ (by omega) (by omega), hs _ (by omega) (by omega)⟩
/-- the reference's cells don't matter -/
theorem CI.mod {S : Nat → Prop} {h h' : zH} {s : zS} (f : Fr S h h') (hs : ∀ c, S c → 93 ≤ c ∧ c ≤ 108) (hC : CI h s) : CI h' s := by
  obtain ⟨a1, a2, a3, ⟨a4, a5, a6⟩, a7, a8, a9⟩ := hC
  have hn : ∀ c, ¬ (93 ≤ c ∧ c ≤ 108) → ¬ S c := fun c q w => q (hs c w)
  exact ⟨a1.fr f (hn 0 (by omega)), a2.fr f (fun c q1 q2 => hn c (by omega)) (fun q hq => hn q (by omega)), a3, ⟨a4.fr f (hn _ (by omega)) (hn _ (by omega)), a5.fr f ⟨hn _ (by omega), hn _ (by omega)⟩, a6.fr f (hn _ (by omega))⟩, a7.fr f (fun q w => by have := hs q w; omega), a8.fr f (fun c q1 q2 => hn c (by omega)), by rw [f.S]; exact a9⟩
/-- the outcome has been asked -/
theorem CI.oc {h h' : zH} {s : zS} (hC : CI h s) (hK : OcK h h' 1 (sW s)) : CI h' s ∧ Gx h h' := by
  obtain ⟨a1, a2, a3, ⟨a4, a5, a6⟩, a7, a8, a9⟩ := hC
  have f := hK.1
  have hn : ∀ c, (c = 0 ∨ (17 ≤ c)) → ¬ OcS 1 c := fun c q w => by unfold OcS at w; omega
  exact ⟨⟨a1.fr f (hn 0 (by omega)), hK.2.2, a3, ⟨a4.fr f (hn _ (by omega)) (hn _ (by omega)), a5.fr f ⟨hn _ (by omega), hn _ (by omega)⟩, a6.fr f (hn _ (by omega))⟩, a7.fr f (fun q w => by unfold OcS at w; omega), a8.fr f (fun c q1 q2 => hn c (by omega)), by rw [f.S]; exact a9⟩, Gx.of f (fun c q => by unfold OcS at q; omega)⟩
def ChS : Nat → Prop := fun c => (1 ≤ c ∧ c ≤ 6) ∨ (33 ≤ c ∧ c ≤ 84)
/-- the state has changed, all that was known is forgotten -/
theorem CI.chg {h h2 : zH} {s : zS} {A' : zA} {hs' : List zA} (hC : CI h s) (f : Fr ChS h h2) (hR1 : gR h2 1 = gR h 1) (hz : gI h2 1 3 = 0 ∧ gI h2 1 5 = 0 ∧ gI h2 1 7 = 0 ∧ gI h2 1 9 = 0 ∧ gI h2 1 10 = 0) (hS : StOK h2 2 A') (hA : AOK A') (hH : HiOK h2 hs') : CI h2 (A', hs', sTx s, sTn s) ∧ Gx h h2 := by
  obtain ⟨a1, a2, a3, ⟨a4, a5, a6⟩, a7, a8, a9⟩ := hC
  have hn : ∀ c, (c = 0 ∨ (7 ≤ c ∧ c ≤ 32) ∨ 85 ≤ c) → ¬ ChS c := fun c q w => by unfold ChS at w; omega
  refine ⟨⟨a1.fr f (hn 0 (by omega)), ⟨⟨a2.1.1.ofR f.K hR1 (f.R (hn _ (by omega))), hS, a2.1.2.2.fr f (hn _ (by omega))⟩, Or.inl hz.1, Or.inl hz.2.1, Or.inl hz.2.2.1, Or.inl hz.2.2.2.1, Or.inl hz.2.2.2.2⟩, hA, ⟨a4.fr f (hn _ (by omega)) (hn _ (by omega)), a5.fr f ⟨hn _ (by omega), hn _ (by omega)⟩, a6.fr f (hn _ (by omega))⟩, hH, a8.fr f (fun c q1 q2 => hn c (by omega)), by rw [f.S]; exact a9⟩, Gx.of f (fun c q => by unfold ChS at q; omega)⟩
/-- behind beginChange -/
theorem CI.beg {h h1 : zH} {s : zS} (hC : CI h s) (f : Fr (fun c => 33 ≤ c ∧ c ≤ 84) h h1) (hH : HiOK h1 (hPush (sHs s) (sW s))) : Fr ChS h (fgt h1 1) ∧ gR (fgt h1 1) = gR h1 ∧ gR h1 1 = gR h 1 ∧ StOK (fgt h1 1) 2 (sW s) ∧ HiOK (fgt h1 1) (hPush (sHs s) (sW s)) := by
  have f2 := fgt_fr h1 1
  refine ⟨f.tr' f2 (fun c q => by unfold ChS; omega) (fun c q => by unfold ChS; omega), rfl, f.R (by omega), (hC.2.1.1.2.1.fr f (fun q hq => by omega) (fun q q1 q2 => by omega)).fr f2 (fun q hq => by omega) (fun q q1 q2 => by omega), hH.fr f2 (fun q w => by omega)⟩
theorem insP_spec {f : Nat → Int} {v : Int} : ∀ {n : Nat}, (∀ i, i + 1 < n → f i < f (i + 1)) → (∀ i, i < n → f i ≠ v) → (∀ i, i < insP f v n → f i < v) ∧ ∀ i, insP f v n ≤ i → i < n → v < f i
  | 0, _, _ => ⟨fun i hi => by simp [insP] at hi, fun i _ hi => by omega⟩
  | n + 1, hs, hd => by
    simp only [insP]
    have ih := insP_spec (n := n) (fun i hi => hs i (by omega)) (fun i hi => hd i (by omega))
    split
    · rename_i h
      refine ⟨ih.1, fun i h1 h2 => ?_⟩
      by_cases e : i = n
      · rw [e]; exact h
      · exact ih.2 i h1 (by omega)
    · rename_i h
      refine ⟨fun i hi => ?_, fun i h1 h2 => by omega⟩
      have hn : f n < v := by have := hd n (by omega); omega
      have hmono : ∀ k, i + k ≤ n → f i ≤ f (i + k) := by
        intro k
        induction k with
        | zero => intro _; exact Int.le_refl _
        | succ k ihk =>
          intro hk
          have h1 := ihk (by omega)
          have h2 := hs (i + k) (by omega)
          rw [← Nat.add_assoc]
          omega
      have := hmono (n - i) (by omega)
      rw [show i + (n - i) = n by omega] at this
      omega
theorem insA_ok {A : zA} {p : Nat} {v : Int} (hA : AOK A) (hp : p < 8) (hv : 0 ≤ v ∧ v ≤ 999) (hf : aN A p < 4) (hd : fIx (aV A p) v (aN A p) 0 = -1) : AOK (insA A p v) := by
  obtain ⟨a1, a2, a3, a4, a5, a6, a7⟩ := hA
  rw [fIx_none] at hd
  have hle := insP_le (aV A p) v (aN A p)
  obtain ⟨i1, i2⟩ := insP_spec (f := aV A p) (v := v) (n := aN A p) (fun i hi => a3 p i hp hi) (fun i hi => hd i (by omega) (by omega))
  have eN : ∀ q, aN (insA A p v) q = if q = p then aN A p + 1 else aN A q := fun q => rfl
  have eV : ∀ q, aV (insA A p v) q = if q = p then insF (aV A p) (insP (aV A p) v (aN A p)) v else aV A q := fun q => rfl
  generalize insP (aV A p) v (aN A p) = j at *
  refine ⟨fun q hq => ?_, fun q i hq hi => ?_, fun q i hq hi => ?_, a4, a5, a6, a7⟩
  · rw [eN]
    split
    · omega
    · exact a1 q hq
  · rw [eN] at hi
    rw [eV]
    by_cases e : q = p
    · subst e
      rw [if_pos rfl] at hi
      rw [if_pos rfl]
      unfold insF
      split
      · exact a2 q i hq (by omega)
      · split
        · exact hv
        · exact a2 q (i - 1) hq (by omega)
    · rw [if_neg e] at hi
      rw [if_neg e]
      exact a2 q i hq hi
  · rw [eN] at hi
    rw [eV]
    by_cases e : q = p
    · subst e
      rw [if_pos rfl] at hi
      rw [if_pos rfl]
      unfold insF
      by_cases h1 : i + 1 < j
      · rw [if_pos (by omega), if_pos h1]; exact a3 q i hq (by omega)
      · by_cases h2 : i + 1 = j
        · rw [if_pos (by omega), if_neg h1, if_pos h2]; exact i1 i (by omega)
        · by_cases h3 : i = j
          · rw [if_neg (by omega), if_pos h3, if_neg h1, if_neg h2, Nat.add_sub_cancel]; exact i2 i (by omega) (by omega)
          · rw [if_neg (by omega), if_neg h3, if_neg h1, if_neg h2, Nat.add_sub_cancel]
            have := a3 q (i - 1) hq (by omega)
            rw [show i - 1 + 1 = i by omega] at this
            exact this
    · rw [if_neg e] at hi
      rw [if_neg e]
      exact a3 q i hq hi
theorem remA_ok {A : zA} {p j : Nat} (hA : AOK A) (hp : p < 8) (hj : j < aN A p) : AOK (remA A p j) := by
  have hlt := fun {x y : Nat} (h1 : x < y) (h2 : y < aN A p) => aV_lt hA hp h1 h2
  obtain ⟨a1, a2, a3, a4, a5, a6, a7⟩ := hA
  have eN : ∀ q, aN (remA A p j) q = if q = p then aN A p - 1 else aN A q := fun q => rfl
  have eV : ∀ q, aV (remA A p j) q = if q = p then remF (aV A p) j else aV A q := fun q => rfl
  refine ⟨fun q hq => ?_, fun q i hq hi => ?_, fun q i hq hi => ?_, a4, a5, a6, a7⟩
  · rw [eN]
    split
    · have := a1 p hp; omega
    · exact a1 q hq
  · rw [eN] at hi
    rw [eV]
    by_cases e : q = p
    · subst e
      rw [if_pos rfl] at hi
      rw [if_pos rfl]
      unfold remF
      split
      · exact a2 q i hq (by omega)
      · exact a2 q (i + 1) hq (by omega)
    · rw [if_neg e] at hi
      rw [if_neg e]
      exact a2 q i hq hi
  · rw [eN] at hi
    rw [eV]
    by_cases e : q = p
    · subst e
      rw [if_pos rfl] at hi
      rw [if_pos rfl]
      unfold remF
      split
      · split
        · exact hlt (by omega) (by omega)
        · exact hlt (by omega) (by omega)
      · rw [if_neg (by omega)]
        exact hlt (by omega) (by omega)
    · rw [if_neg e] at hi
      rw [if_neg e]
      exact a3 q i hq hi
def okP (p : Int) : Bool := decide (0 ≤ p ∧ p < 8)
def okV (v : Int) : Bool := decide (0 ≤ v ∧ v ≤ 999)
theorem okP_t {p : Int} (h : okP p = true) : 0 ≤ p ∧ p < 8 := by simpa [okP] using h
theorem okV_t {p : Int} (h : okV p = true) : 0 ≤ p ∧ p ≤ 999 := by simpa [okV] using h
theorem sp_ip (l : Launch) (G : zG) (h : zH) (p : Int) (hp : InR p) (lv : Nat) (hlv : 1 ≤ lv) : z_Sp l G mtX7_isPack lv 0 0 [vI p] h (rI (if okP p then 1 else 0) h) := by
  have := sp_isPack l G h p hp lv hlv
  simpa [okP] using this
theorem sp_iv (l : Launch) (G : zG) (h : zH) (p : Int) (hp : InR p) (lv : Nat) (hlv : 1 ≤ lv) : z_Sp l G mtX7_isVersion lv 0 0 [vI p] h (rI (if okV p then 1 else 0) h) := by
  have := sp_isVersion l G h p hp lv hlv
  simpa [okV] using this
/-- what a call answers and leaves: a pair -/
def cQ (h : zH) (x : Int × zS) : Option zV → zH → Prop := fun r h' => r = some (vI x.1) ∧ CI h' x.2 ∧ Gx h h'
def fPublish (s : zS) (p v : Int) : Int × zS := if okP p && okV v then (if fIx (aV (sW s) p.toNat) v (aN (sW s) p.toNat) 0 ≠ -1 then (-3, s) else if 4 ≤ aN (sW s) p.toNat then (-4, s) else ((aN (sW s) p.toNat : Int) + 1, insA (sW s) p.toNat v, hPush (sHs s) (sW s), sTx s, sTn s)) else (-2, s)
def fYank (s : zS) (p v : Int) : Int × zS := if okP p && okV v then (if fIx (aV (sW s) p.toNat) v (aN (sW s) p.toNat) 0 = -1 then (-3, s) else ((aN (sW s) p.toNat : Int) - 1, remA (sW s) p.toNat (fIx (aV (sW s) p.toNat) v (aN (sW s) p.toNat) 0).toNat, hPush (sHs s) (sW s), sTx s, sTn s)) else (-2, s)
set_option maxRecDepth 4000 in
set_option maxHeartbeats 4000000 in
theorem sp_publish (l : Launch) (G : zG) (h : zH) (s : zS) (p v : Int) (hC : CI h s) (hp : InR p) (hv : InR v) (lv : Nat) (hlv : 5 ≤ lv) : z_Sp l G mtX7_publish lv 0 0 [vR 0, vI p, vI v] (h) (cQ h (fPublish s p v)) := by
  refine x_enter [vR 0, vI p, vI v] (by decide +kernel) (by omega) rfl (Nat.le_of_ble_eq_true rfl) ?_
  generalize hQ : cQ h (fPublish s p v) = QQ
  obtain ⟨v0, v1, v2, v3, v4, v5, v6⟩ := hC.1
  have hS := hC.2.1.1.2.1
  have hA := hC.2.2.1
  refine z_run1 tsX7_publish [] 20 ?_
  simp (maxSteps := 1000000) -implicitDefEqProofs +contextual (disch := omega) only [z_wp_t, z_wp_u, ↓pI_e, ↓pL_e, ↓pO_e, ↓pR_e, ↓p1_I, ↓p1_O, z_gl, z_st1, z_st2, z_nl_I, z_nl_O, z_nl_J, z_nl_L, if_true, if_false, ite_true, ite_false, true_and, and_true, List.mem_cons, List.not_mem_nil, or_false, false_or, or_self, List.length_cons, List.length_nil, InR_t, InL_t, z_ix_t, mI_s1, mI_s2, ↓brT, ↓brF, ↓brT', ↓brF', mL_sI, mR_sI, mK_sI, mS_sI, mI_sL, mL_s1, mL_s2, mR_sL, mK_sL, mS_sL, mI_sR, mL_sR, mR_s1, mR_s2, mK_sR, mS_sR, mA_s1, mA_s2, mL_sA, mR_sA, mK_sA, mS_sA, ix_n, ix_a, ix_m, ix_s, z_sw, z_stop, forall_const, true_implies, false_implies, imp_self, implies_true, not_true_eq_false, not_false_eq_true, ne_eq, eq_self, Option.some.injEq, reduceCtorEq, Nat.reduceAdd, Nat.reduceSub, Nat.reduceMul, Nat.reduceEqDiff, Nat.reduceLT, Nat.reduceLeDiff, Int.reduceAdd, Int.reduceMul, Int.reduceSub, Int.reduceNeg, Int.reduceToNat, Int.reduceLT, Int.reduceLE, Int.reduceEq, ↓reduceIte, List.reverse_cons, Option.toList, List.cons_append, List.nil_append, vI_inj, vL_inj, vO_inj, rI, rL, rO, rV, mI_sQ, mL_sQ, mK_sQ, mS_sQ, mQ_s1, mQ_s2, iL_and, iL_or, iL_xor, iL_shl, iL_ushr, iR_and, iR_or, iR_xor, iR_shl, iR_shr, iR_ushr, iR_cmp, yc0, tlX7_publish, tkX7_publish, o_aload, o_getR, o_ic, o_iceq, o_ifeq, o_ifne, o_iload, o_iret]
  try simp +contextual (disch := omega) only [impF, impT, and_true, true_and, implies_true, not_false_eq_true, not_true_eq_false]
  refine x_callS (by decide +kernel) cv_X7_43 (sp_ip l G h p hp 1 (by omega)) (by omega) rfl (by omega) (by omega) rfl (Nat.le_of_ble_eq_true rfl) ?_
  rintro r h' ⟨rfl, hE⟩
  subst h'
  cases hop : okP p
  · simp only [Bool.false_eq_true, if_false]
    refine z_run1 tsX7_publish [] 20 ?_
    simp (maxSteps := 1000000) -implicitDefEqProofs +contextual (disch := omega) only [z_wp_t, z_wp_u, ↓pI_e, ↓pL_e, ↓pO_e, ↓pR_e, ↓p1_I, ↓p1_O, z_gl, z_st1, z_st2, z_nl_I, z_nl_O, z_nl_J, z_nl_L, if_true, if_false, ite_true, ite_false, true_and, and_true, List.mem_cons, List.not_mem_nil, or_false, false_or, or_self, List.length_cons, List.length_nil, InR_t, InL_t, z_ix_t, mI_s1, mI_s2, ↓brT, ↓brF, ↓brT', ↓brF', mL_sI, mR_sI, mK_sI, mS_sI, mI_sL, mL_s1, mL_s2, mR_sL, mK_sL, mS_sL, mI_sR, mL_sR, mR_s1, mR_s2, mK_sR, mS_sR, mA_s1, mA_s2, mL_sA, mR_sA, mK_sA, mS_sA, ix_n, ix_a, ix_m, ix_s, z_sw, z_stop, forall_const, true_implies, false_implies, imp_self, implies_true, not_true_eq_false, not_false_eq_true, ne_eq, eq_self, Option.some.injEq, reduceCtorEq, Nat.reduceAdd, Nat.reduceSub, Nat.reduceMul, Nat.reduceEqDiff, Nat.reduceLT, Nat.reduceLeDiff, Int.reduceAdd, Int.reduceMul, Int.reduceSub, Int.reduceNeg, Int.reduceToNat, Int.reduceLT, Int.reduceLE, Int.reduceEq, ↓reduceIte, List.reverse_cons, Option.toList, List.cons_append, List.nil_append, vI_inj, vL_inj, vO_inj, rI, rL, rO, rV, mI_sQ, mL_sQ, mK_sQ, mS_sQ, mQ_s1, mQ_s2, iL_and, iL_or, iL_xor, iL_shl, iL_ushr, iR_and, iR_or, iR_xor, iR_shl, iR_shr, iR_ushr, iR_cmp, yc0, tlX7_publish, tkX7_publish, o_aload, o_getR, o_ic, o_iceq, o_ifeq, o_ifne, o_iload, o_iret]
    try simp +contextual (disch := omega) only [impF, impT, and_true, true_and, implies_true, not_false_eq_true, not_true_eq_false]
    rw [← hQ, fPublish, hop]
    exact ⟨rfl, hC, Gx.rf⟩
  · simp only [if_true]
    refine z_run1 tsX7_publish [] 20 ?_
    simp (maxSteps := 1000000) -implicitDefEqProofs +contextual (disch := omega) only [z_wp_t, z_wp_u, ↓pI_e, ↓pL_e, ↓pO_e, ↓pR_e, ↓p1_I, ↓p1_O, z_gl, z_st1, z_st2, z_nl_I, z_nl_O, z_nl_J, z_nl_L, if_true, if_false, ite_true, ite_false, true_and, and_true, List.mem_cons, List.not_mem_nil, or_false, false_or, or_self, List.length_cons, List.length_nil, InR_t, InL_t, z_ix_t, mI_s1, mI_s2, ↓brT, ↓brF, ↓brT', ↓brF', mL_sI, mR_sI, mK_sI, mS_sI, mI_sL, mL_s1, mL_s2, mR_sL, mK_sL, mS_sL, mI_sR, mL_sR, mR_s1, mR_s2, mK_sR, mS_sR, mA_s1, mA_s2, mL_sA, mR_sA, mK_sA, mS_sA, ix_n, ix_a, ix_m, ix_s, z_sw, z_stop, forall_const, true_implies, false_implies, imp_self, implies_true, not_true_eq_false, not_false_eq_true, ne_eq, eq_self, Option.some.injEq, reduceCtorEq, Nat.reduceAdd, Nat.reduceSub, Nat.reduceMul, Nat.reduceEqDiff, Nat.reduceLT, Nat.reduceLeDiff, Int.reduceAdd, Int.reduceMul, Int.reduceSub, Int.reduceNeg, Int.reduceToNat, Int.reduceLT, Int.reduceLE, Int.reduceEq, ↓reduceIte, List.reverse_cons, Option.toList, List.cons_append, List.nil_append, vI_inj, vL_inj, vO_inj, rI, rL, rO, rV, mI_sQ, mL_sQ, mK_sQ, mS_sQ, mQ_s1, mQ_s2, iL_and, iL_or, iL_xor, iL_shl, iL_ushr, iR_and, iR_or, iR_xor, iR_shl, iR_shr, iR_ushr, iR_cmp, yc0, tlX7_publish, tkX7_publish, o_aload, o_getR, o_ic, o_iceq, o_ifeq, o_ifne, o_iload, o_iret]
    try simp +contextual (disch := omega) only [impF, impT, and_true, true_and, implies_true, not_false_eq_true, not_true_eq_false]
    refine x_callS (by decide +kernel) cv_X7_47 (sp_iv l G h v hv 1 (by omega)) (by omega) rfl (by omega) (by omega) rfl (Nat.le_of_ble_eq_true rfl) ?_
    rintro r h' ⟨rfl, hE⟩
    subst h'
    cases hov : okV v
    · simp only [Bool.false_eq_true, if_false]
      refine z_run1 tsX7_publish [] 20 ?_
      simp (maxSteps := 1000000) -implicitDefEqProofs +contextual (disch := omega) only [z_wp_t, z_wp_u, ↓pI_e, ↓pL_e, ↓pO_e, ↓pR_e, ↓p1_I, ↓p1_O, z_gl, z_st1, z_st2, z_nl_I, z_nl_O, z_nl_J, z_nl_L, if_true, if_false, ite_true, ite_false, true_and, and_true, List.mem_cons, List.not_mem_nil, or_false, false_or, or_self, List.length_cons, List.length_nil, InR_t, InL_t, z_ix_t, mI_s1, mI_s2, ↓brT, ↓brF, ↓brT', ↓brF', mL_sI, mR_sI, mK_sI, mS_sI, mI_sL, mL_s1, mL_s2, mR_sL, mK_sL, mS_sL, mI_sR, mL_sR, mR_s1, mR_s2, mK_sR, mS_sR, mA_s1, mA_s2, mL_sA, mR_sA, mK_sA, mS_sA, ix_n, ix_a, ix_m, ix_s, z_sw, z_stop, forall_const, true_implies, false_implies, imp_self, implies_true, not_true_eq_false, not_false_eq_true, ne_eq, eq_self, Option.some.injEq, reduceCtorEq, Nat.reduceAdd, Nat.reduceSub, Nat.reduceMul, Nat.reduceEqDiff, Nat.reduceLT, Nat.reduceLeDiff, Int.reduceAdd, Int.reduceMul, Int.reduceSub, Int.reduceNeg, Int.reduceToNat, Int.reduceLT, Int.reduceLE, Int.reduceEq, ↓reduceIte, List.reverse_cons, Option.toList, List.cons_append, List.nil_append, vI_inj, vL_inj, vO_inj, rI, rL, rO, rV, mI_sQ, mL_sQ, mK_sQ, mS_sQ, mQ_s1, mQ_s2, iL_and, iL_or, iL_xor, iL_shl, iL_ushr, iR_and, iR_or, iR_xor, iR_shl, iR_shr, iR_ushr, iR_cmp, yc0, tlX7_publish, tkX7_publish, o_aload, o_getR, o_ic, o_iceq, o_ifeq, o_ifne, o_iload, o_iret]
      try simp +contextual (disch := omega) only [impF, impT, and_true, true_and, implies_true, not_false_eq_true, not_true_eq_false]
      rw [← hQ, fPublish, hop, hov]
      exact ⟨rfl, hC, Gx.rf⟩
    · simp only [if_true]
      have hp2 := okP_t hop
      have hv2 := okV_t hov
      obtain ⟨P, rfl⟩ := Int.eq_ofNat_of_zero_le hp2.1
      have hP : P < 8 := by omega
      rw [fPublish, hop, hov, Int.toNat_natCast] at hQ
      simp only [Bool.and_self, if_true] at hQ
      refine z_run1 tsX7_publish [] 20 ?_
      simp (maxSteps := 1000000) -implicitDefEqProofs +contextual (disch := omega) only [z_wp_t, z_wp_u, ↓pI_e, ↓pL_e, ↓pO_e, ↓pR_e, ↓p1_I, ↓p1_O, z_gl, z_st1, z_st2, z_nl_I, z_nl_O, z_nl_J, z_nl_L, if_true, if_false, ite_true, ite_false, true_and, and_true, List.mem_cons, List.not_mem_nil, or_false, false_or, or_self, List.length_cons, List.length_nil, InR_t, InL_t, z_ix_t, mI_s1, mI_s2, ↓brT, ↓brF, ↓brT', ↓brF', mL_sI, mR_sI, mK_sI, mS_sI, mI_sL, mL_s1, mL_s2, mR_sL, mK_sL, mS_sL, mI_sR, mL_sR, mR_s1, mR_s2, mK_sR, mS_sR, mA_s1, mA_s2, mL_sA, mR_sA, mK_sA, mS_sA, ix_n, ix_a, ix_m, ix_s, z_sw, z_stop, forall_const, true_implies, false_implies, imp_self, implies_true, not_true_eq_false, not_false_eq_true, ne_eq, eq_self, Option.some.injEq, reduceCtorEq, Nat.reduceAdd, Nat.reduceSub, Nat.reduceMul, Nat.reduceEqDiff, Nat.reduceLT, Nat.reduceLeDiff, Int.reduceAdd, Int.reduceMul, Int.reduceSub, Int.reduceNeg, Int.reduceToNat, Int.reduceLT, Int.reduceLE, Int.reduceEq, ↓reduceIte, List.reverse_cons, Option.toList, List.cons_append, List.nil_append, vI_inj, vL_inj, vO_inj, rI, rL, rO, rV, mI_sQ, mL_sQ, mK_sQ, mS_sQ, mQ_s1, mQ_s2, iL_and, iL_or, iL_xor, iL_shl, iL_ushr, iR_and, iR_or, iR_xor, iR_shl, iR_shr, iR_ushr, iR_cmp, yc0, tlX7_publish, tkX7_publish, o_aload, o_getR, o_ic, o_iceq, o_ifeq, o_ifne, o_iload, o_iret, v0, v2]
      try simp +contextual (disch := omega) only [impF, impT, and_true, true_and, implies_true, not_false_eq_true, not_true_eq_false]
      refine x_callV (by decide +kernel) cv_X7_50 (sp_placeOf l G h 2 P v (sW s) hS hA hP hv 2 (by omega)) hS.1.1 (by omega) rfl (by omega) (by omega) rfl (Nat.le_of_ble_eq_true rfl) ?_
      rintro r h' ⟨rfl, hE⟩
      subst h'
      have hfr : -1 ≤ fIx (aV (sW s) P) v (aN (sW s) P) 0 ∧ fIx (aV (sW s) P) v (aN (sW s) P) 0 ≤ 4 := by
        have h4 := hA.1 P hP
        by_cases e : fIx (aV (sW s) P) v (aN (sW s) P) 0 = -1
        · omega
        · have := fIx_some rfl e; omega
      by_cases hf : fIx (aV (sW s) P) v (aN (sW s) P) 0 = -1
      · rw [if_neg (fun q => q hf)] at hQ
        rw [hf]
        refine z_run1 tsX7_publish [] 20 ?_
        simp (maxSteps := 1000000) -implicitDefEqProofs +contextual (disch := omega) only [z_wp_t, z_wp_u, ↓pI_e, ↓pL_e, ↓pO_e, ↓pR_e, ↓p1_I, ↓p1_O, z_gl, z_st1, z_st2, z_nl_I, z_nl_O, z_nl_J, z_nl_L, if_true, if_false, ite_true, ite_false, true_and, and_true, List.mem_cons, List.not_mem_nil, or_false, false_or, or_self, List.length_cons, List.length_nil, InR_t, InL_t, z_ix_t, mI_s1, mI_s2, ↓brT, ↓brF, ↓brT', ↓brF', mL_sI, mR_sI, mK_sI, mS_sI, mI_sL, mL_s1, mL_s2, mR_sL, mK_sL, mS_sL, mI_sR, mL_sR, mR_s1, mR_s2, mK_sR, mS_sR, mA_s1, mA_s2, mL_sA, mR_sA, mK_sA, mS_sA, ix_n, ix_a, ix_m, ix_s, z_sw, z_stop, forall_const, true_implies, false_implies, imp_self, implies_true, not_true_eq_false, not_false_eq_true, ne_eq, eq_self, Option.some.injEq, reduceCtorEq, Nat.reduceAdd, Nat.reduceSub, Nat.reduceMul, Nat.reduceEqDiff, Nat.reduceLT, Nat.reduceLeDiff, Int.reduceAdd, Int.reduceMul, Int.reduceSub, Int.reduceNeg, Int.reduceToNat, Int.reduceLT, Int.reduceLE, Int.reduceEq, ↓reduceIte, List.reverse_cons, Option.toList, List.cons_append, List.nil_append, vI_inj, vL_inj, vO_inj, rI, rL, rO, rV, mI_sQ, mL_sQ, mK_sQ, mS_sQ, mQ_s1, mQ_s2, iL_and, iL_or, iL_xor, iL_shl, iL_ushr, iR_and, iR_or, iR_xor, iR_shl, iR_shr, iR_ushr, iR_cmp, yc0, tlX7_publish, tkX7_publish, o_aload, o_getR, o_ic, o_iceq, o_ifeq, o_ifne, o_iload, o_iret, v0, v2]
        try simp +contextual (disch := omega) only [impF, impT, and_true, true_and, implies_true, not_false_eq_true, not_true_eq_false]
        refine x_callV (by decide +kernel) cv_X7_56 (sp_isFullAt l G h 2 P (sW s) hS hA hP 3 (by omega)) hS.1.1 (by omega) rfl (by omega) (by omega) rfl (Nat.le_of_ble_eq_true rfl) ?_
        rintro r h' ⟨rfl, hE⟩
        subst h'
        by_cases h4 : 4 ≤ aN (sW s) P
        · rw [if_pos h4] at hQ
          rw [if_pos h4]
          refine z_run1 tsX7_publish [] 20 ?_
          simp (maxSteps := 1000000) -implicitDefEqProofs +contextual (disch := omega) only [z_wp_t, z_wp_u, ↓pI_e, ↓pL_e, ↓pO_e, ↓pR_e, ↓p1_I, ↓p1_O, z_gl, z_st1, z_st2, z_nl_I, z_nl_O, z_nl_J, z_nl_L, if_true, if_false, ite_true, ite_false, true_and, and_true, List.mem_cons, List.not_mem_nil, or_false, false_or, or_self, List.length_cons, List.length_nil, InR_t, InL_t, z_ix_t, mI_s1, mI_s2, ↓brT, ↓brF, ↓brT', ↓brF', mL_sI, mR_sI, mK_sI, mS_sI, mI_sL, mL_s1, mL_s2, mR_sL, mK_sL, mS_sL, mI_sR, mL_sR, mR_s1, mR_s2, mK_sR, mS_sR, mA_s1, mA_s2, mL_sA, mR_sA, mK_sA, mS_sA, ix_n, ix_a, ix_m, ix_s, z_sw, z_stop, forall_const, true_implies, false_implies, imp_self, implies_true, not_true_eq_false, not_false_eq_true, ne_eq, eq_self, Option.some.injEq, reduceCtorEq, Nat.reduceAdd, Nat.reduceSub, Nat.reduceMul, Nat.reduceEqDiff, Nat.reduceLT, Nat.reduceLeDiff, Int.reduceAdd, Int.reduceMul, Int.reduceSub, Int.reduceNeg, Int.reduceToNat, Int.reduceLT, Int.reduceLE, Int.reduceEq, ↓reduceIte, List.reverse_cons, Option.toList, List.cons_append, List.nil_append, vI_inj, vL_inj, vO_inj, rI, rL, rO, rV, mI_sQ, mL_sQ, mK_sQ, mS_sQ, mQ_s1, mQ_s2, iL_and, iL_or, iL_xor, iL_shl, iL_ushr, iR_and, iR_or, iR_xor, iR_shl, iR_shr, iR_ushr, iR_cmp, yc0, tlX7_publish, tkX7_publish, o_aload, o_getR, o_ic, o_iceq, o_ifeq, o_ifne, o_iload, o_iret]
          try simp +contextual (disch := omega) only [impF, impT, and_true, true_and, implies_true, not_false_eq_true, not_true_eq_false]
          rw [← hQ]
          exact ⟨rfl, hC, Gx.rf⟩
        · rw [if_neg h4] at hQ
          rw [if_neg h4]
          refine z_run1 tsX7_publish [] 20 ?_
          simp (maxSteps := 1000000) -implicitDefEqProofs +contextual (disch := omega) only [z_wp_t, z_wp_u, ↓pI_e, ↓pL_e, ↓pO_e, ↓pR_e, ↓p1_I, ↓p1_O, z_gl, z_st1, z_st2, z_nl_I, z_nl_O, z_nl_J, z_nl_L, if_true, if_false, ite_true, ite_false, true_and, and_true, List.mem_cons, List.not_mem_nil, or_false, false_or, or_self, List.length_cons, List.length_nil, InR_t, InL_t, z_ix_t, mI_s1, mI_s2, ↓brT, ↓brF, ↓brT', ↓brF', mL_sI, mR_sI, mK_sI, mS_sI, mI_sL, mL_s1, mL_s2, mR_sL, mK_sL, mS_sL, mI_sR, mL_sR, mR_s1, mR_s2, mK_sR, mS_sR, mA_s1, mA_s2, mL_sA, mR_sA, mK_sA, mS_sA, ix_n, ix_a, ix_m, ix_s, z_sw, z_stop, forall_const, true_implies, false_implies, imp_self, implies_true, not_true_eq_false, not_false_eq_true, ne_eq, eq_self, Option.some.injEq, reduceCtorEq, Nat.reduceAdd, Nat.reduceSub, Nat.reduceMul, Nat.reduceEqDiff, Nat.reduceLT, Nat.reduceLeDiff, Int.reduceAdd, Int.reduceMul, Int.reduceSub, Int.reduceNeg, Int.reduceToNat, Int.reduceLT, Int.reduceLE, Int.reduceEq, ↓reduceIte, List.reverse_cons, Option.toList, List.cons_append, List.nil_append, vI_inj, vL_inj, vO_inj, rI, rL, rO, rV, mI_sQ, mL_sQ, mK_sQ, mS_sQ, mQ_s1, mQ_s2, iL_and, iL_or, iL_xor, iL_shl, iL_ushr, iR_and, iR_or, iR_xor, iR_shl, iR_shr, iR_ushr, iR_cmp, yc0, tlX7_publish, tkX7_publish, o_aload, o_getR, o_ic, o_iceq, o_ifeq, o_ifne, o_iload, o_iret]
          try simp +contextual (disch := omega) only [impF, impT, and_true, true_and, implies_true, not_false_eq_true, not_true_eq_false]
          refine x_callV (by decide +kernel) cv_X7_59 (sp_beginChange l G h (sW s) (sHs s) hC.1 hC.2.1.1.1 hC.2.2.2.2.1 hS hA 3 (by omega)) v0 (by omega) rfl (by omega) (by omega) rfl (Nat.le_of_ble_eq_true rfl) ?_
          rintro r h2 ⟨rfl, h1, rfl, f1, hH1⟩
          obtain ⟨c1, c2, c3, c4, c5⟩ := hC.beg f1 hH1
          have hz := fgt_0 h1 1
          generalize fgt h1 1 = h2 at *
          have w0 : (gK h2 0).1 = 7 := by rw [c1.K]; exact v0
          have w2 : gR h2 0 1 = some 2 := by rw [c1.R (by unfold ChS; omega)]; exact v2
          refine z_run1 tsX7_publish [] 20 ?_
          simp (maxSteps := 1000000) -implicitDefEqProofs +contextual (disch := omega) only [z_wp_t, z_wp_u, ↓pI_e, ↓pL_e, ↓pO_e, ↓pR_e, ↓p1_I, ↓p1_O, z_gl, z_st1, z_st2, z_nl_I, z_nl_O, z_nl_J, z_nl_L, if_true, if_false, ite_true, ite_false, true_and, and_true, List.mem_cons, List.not_mem_nil, or_false, false_or, or_self, List.length_cons, List.length_nil, InR_t, InL_t, z_ix_t, mI_s1, mI_s2, ↓brT, ↓brF, ↓brT', ↓brF', mL_sI, mR_sI, mK_sI, mS_sI, mI_sL, mL_s1, mL_s2, mR_sL, mK_sL, mS_sL, mI_sR, mL_sR, mR_s1, mR_s2, mK_sR, mS_sR, mA_s1, mA_s2, mL_sA, mR_sA, mK_sA, mS_sA, ix_n, ix_a, ix_m, ix_s, z_sw, z_stop, forall_const, true_implies, false_implies, imp_self, implies_true, not_true_eq_false, not_false_eq_true, ne_eq, eq_self, Option.some.injEq, reduceCtorEq, Nat.reduceAdd, Nat.reduceSub, Nat.reduceMul, Nat.reduceEqDiff, Nat.reduceLT, Nat.reduceLeDiff, Int.reduceAdd, Int.reduceMul, Int.reduceSub, Int.reduceNeg, Int.reduceToNat, Int.reduceLT, Int.reduceLE, Int.reduceEq, ↓reduceIte, List.reverse_cons, Option.toList, List.cons_append, List.nil_append, vI_inj, vL_inj, vO_inj, rI, rL, rO, rV, mI_sQ, mL_sQ, mK_sQ, mS_sQ, mQ_s1, mQ_s2, iL_and, iL_or, iL_xor, iL_shl, iL_ushr, iR_and, iR_or, iR_xor, iR_shl, iR_shr, iR_ushr, iR_cmp, yc0, tlX7_publish, tkX7_publish, o_aload, o_getR, o_ic, o_iceq, o_ifeq, o_ifne, o_iload, o_iret, w0, w2]
          try simp +contextual (disch := omega) only [impF, impT, and_true, true_and, implies_true, not_false_eq_true, not_true_eq_false]
          refine x_callV (by decide +kernel) cv_X7_62 (sp_insertVersion l G h2 2 P v (sW s) c4 hA hP hv (by omega) (by omega) 4 (by omega)) c4.1.1 (by omega) rfl (by omega) (by omega) rfl (Nat.le_of_ble_eq_true rfl) ?_
          rintro r h3 ⟨rfl, f3, hS3⟩
          have w0' : (gK h3 0).1 = 7 := by rw [f3.K]; exact w0
          have w2' : gR h3 0 1 = some 2 := by rw [f3.R (by omega)]; exact w2
          refine z_run1 tsX7_publish [] 20 ?_
          simp (maxSteps := 1000000) -implicitDefEqProofs +contextual (disch := omega) only [z_wp_t, z_wp_u, ↓pI_e, ↓pL_e, ↓pO_e, ↓pR_e, ↓p1_I, ↓p1_O, z_gl, z_st1, z_st2, z_nl_I, z_nl_O, z_nl_J, z_nl_L, if_true, if_false, ite_true, ite_false, true_and, and_true, List.mem_cons, List.not_mem_nil, or_false, false_or, or_self, List.length_cons, List.length_nil, InR_t, InL_t, z_ix_t, mI_s1, mI_s2, ↓brT, ↓brF, ↓brT', ↓brF', mL_sI, mR_sI, mK_sI, mS_sI, mI_sL, mL_s1, mL_s2, mR_sL, mK_sL, mS_sL, mI_sR, mL_sR, mR_s1, mR_s2, mK_sR, mS_sR, mA_s1, mA_s2, mL_sA, mR_sA, mK_sA, mS_sA, ix_n, ix_a, ix_m, ix_s, z_sw, z_stop, forall_const, true_implies, false_implies, imp_self, implies_true, not_true_eq_false, not_false_eq_true, ne_eq, eq_self, Option.some.injEq, reduceCtorEq, Nat.reduceAdd, Nat.reduceSub, Nat.reduceMul, Nat.reduceEqDiff, Nat.reduceLT, Nat.reduceLeDiff, Int.reduceAdd, Int.reduceMul, Int.reduceSub, Int.reduceNeg, Int.reduceToNat, Int.reduceLT, Int.reduceLE, Int.reduceEq, ↓reduceIte, List.reverse_cons, Option.toList, List.cons_append, List.nil_append, vI_inj, vL_inj, vO_inj, rI, rL, rO, rV, mI_sQ, mL_sQ, mK_sQ, mS_sQ, mQ_s1, mQ_s2, iL_and, iL_or, iL_xor, iL_shl, iL_ushr, iR_and, iR_or, iR_xor, iR_shl, iR_shr, iR_ushr, iR_cmp, yc0, tlX7_publish, tkX7_publish, o_aload, o_getR, o_ic, o_iceq, o_ifeq, o_ifne, o_iload, o_iret, w0', w2']
          try simp +contextual (disch := omega) only [impF, impT, and_true, true_and, implies_true, not_false_eq_true, not_true_eq_false]
          refine x_callV (by decide +kernel) cv_X7_66 (sp_versionCount l G h3 2 P (insA (sW s) P v) hS3 hP 2 (by omega)) hS3.1.1 (by omega) rfl (by omega) (by omega) rfl (Nat.le_of_ble_eq_true rfl) ?_
          rintro r h' ⟨rfl, hE⟩
          subst h'
          refine z_run1 tsX7_publish [] 20 ?_
          simp (maxSteps := 1000000) -implicitDefEqProofs +contextual (disch := omega) only [z_wp_t, z_wp_u, ↓pI_e, ↓pL_e, ↓pO_e, ↓pR_e, ↓p1_I, ↓p1_O, z_gl, z_st1, z_st2, z_nl_I, z_nl_O, z_nl_J, z_nl_L, if_true, if_false, ite_true, ite_false, true_and, and_true, List.mem_cons, List.not_mem_nil, or_false, false_or, or_self, List.length_cons, List.length_nil, InR_t, InL_t, z_ix_t, mI_s1, mI_s2, ↓brT, ↓brF, ↓brT', ↓brF', mL_sI, mR_sI, mK_sI, mS_sI, mI_sL, mL_s1, mL_s2, mR_sL, mK_sL, mS_sL, mI_sR, mL_sR, mR_s1, mR_s2, mK_sR, mS_sR, mA_s1, mA_s2, mL_sA, mR_sA, mK_sA, mS_sA, ix_n, ix_a, ix_m, ix_s, z_sw, z_stop, forall_const, true_implies, false_implies, imp_self, implies_true, not_true_eq_false, not_false_eq_true, ne_eq, eq_self, Option.some.injEq, reduceCtorEq, Nat.reduceAdd, Nat.reduceSub, Nat.reduceMul, Nat.reduceEqDiff, Nat.reduceLT, Nat.reduceLeDiff, Int.reduceAdd, Int.reduceMul, Int.reduceSub, Int.reduceNeg, Int.reduceToNat, Int.reduceLT, Int.reduceLE, Int.reduceEq, ↓reduceIte, List.reverse_cons, Option.toList, List.cons_append, List.nil_append, vI_inj, vL_inj, vO_inj, rI, rL, rO, rV, mI_sQ, mL_sQ, mK_sQ, mS_sQ, mQ_s1, mQ_s2, iL_and, iL_or, iL_xor, iL_shl, iL_ushr, iR_and, iR_or, iR_xor, iR_shl, iR_shr, iR_ushr, iR_cmp, yc0, tlX7_publish, tkX7_publish, o_aload, o_getR, o_ic, o_iceq, o_ifeq, o_ifne, o_iload, o_iret]
          try simp +contextual (disch := omega) only [impF, impT, and_true, true_and, implies_true, not_false_eq_true, not_true_eq_false]
          rw [← hQ]
          have fin := hC.chg (c1.tr' f3 (fun _ q => q) (fun c q => by unfold ChS; omega)) (by rw [f3.R (by omega), c2, c3]) (by rw [f3.I (by omega)]; exact hz) hS3 (insA_ok hA hP hv2 (by omega) hf) (c5.fr f3 (fun q w => by omega))
          refine ⟨?_, fin.1, fin.2⟩
          rw [show aN (insA (sW s) P v) P = aN (sW s) P + 1 by simp [insA, aN, up]]
          rfl
      · rw [if_pos hf] at hQ
        refine z_run1 tsX7_publish [] 20 ?_
        simp (maxSteps := 1000000) -implicitDefEqProofs +contextual (disch := omega) only [z_wp_t, z_wp_u, ↓pI_e, ↓pL_e, ↓pO_e, ↓pR_e, ↓p1_I, ↓p1_O, z_gl, z_st1, z_st2, z_nl_I, z_nl_O, z_nl_J, z_nl_L, if_true, if_false, ite_true, ite_false, true_and, and_true, List.mem_cons, List.not_mem_nil, or_false, false_or, or_self, List.length_cons, List.length_nil, InR_t, InL_t, z_ix_t, mI_s1, mI_s2, ↓brT, ↓brF, ↓brT', ↓brF', mL_sI, mR_sI, mK_sI, mS_sI, mI_sL, mL_s1, mL_s2, mR_sL, mK_sL, mS_sL, mI_sR, mL_sR, mR_s1, mR_s2, mK_sR, mS_sR, mA_s1, mA_s2, mL_sA, mR_sA, mK_sA, mS_sA, ix_n, ix_a, ix_m, ix_s, z_sw, z_stop, forall_const, true_implies, false_implies, imp_self, implies_true, not_true_eq_false, not_false_eq_true, ne_eq, eq_self, Option.some.injEq, reduceCtorEq, Nat.reduceAdd, Nat.reduceSub, Nat.reduceMul, Nat.reduceEqDiff, Nat.reduceLT, Nat.reduceLeDiff, Int.reduceAdd, Int.reduceMul, Int.reduceSub, Int.reduceNeg, Int.reduceToNat, Int.reduceLT, Int.reduceLE, Int.reduceEq, ↓reduceIte, List.reverse_cons, Option.toList, List.cons_append, List.nil_append, vI_inj, vL_inj, vO_inj, rI, rL, rO, rV, mI_sQ, mL_sQ, mK_sQ, mS_sQ, mQ_s1, mQ_s2, iL_and, iL_or, iL_xor, iL_shl, iL_ushr, iR_and, iR_or, iR_xor, iR_shl, iR_shr, iR_ushr, iR_cmp, yc0, tlX7_publish, tkX7_publish, o_aload, o_getR, o_ic, o_iceq, o_ifeq, o_ifne, o_iload, o_iret]
        try simp +contextual (disch := omega) only [impF, impT, and_true, true_and, implies_true, not_false_eq_true, not_true_eq_false]
        rw [← hQ]
        exact ⟨rfl, hC, Gx.rf⟩
