/-! reading what was written -/
theorem mI_sI (h : zH) (a k : Nat) (z : Int) (b j : Nat) : gI (sI h a k z) b j = if b = a ∧ j = k then z else gI h b j := rfl
theorem mL_sI (h : zH) (a k : Nat) (z : Int) : gL (sI h a k z) = gL h := rfl
theorem mR_sI (h : zH) (a k : Nat) (z : Int) : gR (sI h a k z) = gR h := rfl
theorem mK_sI (h : zH) (a k : Nat) (z : Int) : gK (sI h a k z) = gK h := rfl
theorem mS_sI (h : zH) (a k : Nat) (z : Int) : gS (sI h a k z) = gS h := rfl
theorem mI_sL (h : zH) (a k : Nat) (z : Int) : gI (sL h a k z) = gI h := rfl
theorem mL_sL (h : zH) (a k : Nat) (z : Int) (b j : Nat) : gL (sL h a k z) b j = if b = a ∧ j = k then z else gL h b j := rfl
theorem mR_sL (h : zH) (a k : Nat) (z : Int) : gR (sL h a k z) = gR h := rfl
theorem mK_sL (h : zH) (a k : Nat) (z : Int) : gK (sL h a k z) = gK h := rfl
theorem mS_sL (h : zH) (a k : Nat) (z : Int) : gS (sL h a k z) = gS h := rfl
theorem mI_sR (h : zH) (a k : Nat) (o : Option Nat) : gI (sR h a k o) = gI h := rfl
theorem mL_sR (h : zH) (a k : Nat) (o : Option Nat) : gL (sR h a k o) = gL h := rfl
theorem mR_sR (h : zH) (a k : Nat) (o : Option Nat) (b j : Nat) : gR (sR h a k o) b j = if b = a ∧ j = k then o else gR h b j := rfl
theorem mK_sR (h : zH) (a k : Nat) (o : Option Nat) : gK (sR h a k o) = gK h := rfl
theorem mS_sR (h : zH) (a k : Nat) (o : Option Nat) : gS (sR h a k o) = gS h := rfl
theorem mI_sA (h : zH) (a : Nat) (f : Nat → Int) (b j : Nat) : gI (sA h a f) b j = if b = a then f j else gI h b j := rfl
theorem mL_sA (h : zH) (a : Nat) (f : Nat → Int) : gL (sA h a f) = gL h := rfl
theorem mR_sA (h : zH) (a : Nat) (f : Nat → Int) : gR (sA h a f) = gR h := rfl
theorem mK_sA (h : zH) (a : Nat) (f : Nat → Int) : gK (sA h a f) = gK h := rfl
theorem mS_sA (h : zH) (a : Nat) (f : Nat → Int) : gS (sA h a f) = gS h := rfl
theorem mI_nC (h : zH) (kd : Nat × Nat) (b j : Nat) : gI (nC h kd) b j = if b = gS h then 0 else gI h b j := rfl
theorem mL_nC (h : zH) (kd : Nat × Nat) (b j : Nat) : gL (nC h kd) b j = if b = gS h then 0 else gL h b j := rfl
theorem mR_nC (h : zH) (kd : Nat × Nat) (b j : Nat) : gR (nC h kd) b j = if b = gS h then none else gR h b j := rfl
theorem mK_nC (h : zH) (kd : Nat × Nat) (b : Nat) : gK (nC h kd) b = if b = gS h then kd else gK h b := rfl
theorem mS_nC (h : zH) (kd : Nat × Nat) : gS (nC h kd) = gS h + 1 := rfl
theorem ix_n (n : Nat) : ((n : Int)).toNat = n := Int.toNat_natCast n
theorem ix_a {a b : Int} (ha : 0 ≤ a) (hb : 0 ≤ b) : (a + b).toNat = a.toNat + b.toNat := Int.toNat_add ha hb
theorem ix_m {a b : Int} (ha : 0 ≤ a) (hb : 0 ≤ b) : (a * b).toNat = a.toNat * b.toNat := Int.toNat_mul ha hb
theorem ix_s {a b : Int} (hb : 0 ≤ b) (hab : b ≤ a) : (a - b).toNat = a.toNat - b.toNat := by omega
theorem z_stop (X K : zK) (Q : Option zV → zH → Prop) (h : zH) (pc : Nat) (ls st : List zV) : o_stop X K Q h pc ls st = X h pc ls st := rfl
/-- one instruction, then a run that stops at places of S -/
theorem z_run1 {l : Launch} {G : zG} {μ : zM} {lv mc ms : Nat} {Q : Option zV → zH → Prop} {cells slots : Nat} {t : List (Nat × zO)} (hT : z_TS μ t) (S : List Nat) (f : Nat) {h : zH} {pc : Nat} {ls st : List zV} (hw : z_op t pc (z_X l G μ lv mc ms Q cells slots) (z_wp t S (z_X l G μ lv mc ms Q cells slots) Q f) Q h pc ls st) : z_X l G μ lv mc ms Q cells slots h pc ls st := by
  unfold z_op at hw
  cases hl : t.lookup pc with
  | none => rw [hl] at hw; exact hw
  | some o =>
    rw [hl] at hw
    exact hT (pc, o) (z_mem_lookup hl) l G lv mc ms Q cells slots _ (fun h pc ls st hk => z_run hT S f hk) h ls st hw
def fIx (f : Nat → Int) (v : Int) : Nat → Nat → Int
  | 0, _ => -1
  | n + 1, i => if f i = v then (i : Int) else fIx f v n (i + 1)
-- MORE
theorem vI_inj (a b : Int) : (vI a = vI b) = (a = b) := propext ⟨fun q => Sum.inl.inj q, fun q => by rw [q]⟩
theorem vL_inj (a b : Int) : (vL a = vL b) = (a = b) := propext ⟨fun q => Sum.inl.inj (Sum.inr.inj q), fun q => by rw [q]⟩
theorem vO_inj (a b : Option Nat) : (vO a = vO b) = (a = b) := propext ⟨fun q => Sum.inl.inj (Sum.inr.inj (Sum.inr.inj q)), fun q => by rw [q]⟩
/-- ends: an int, a long, a reference, nothing; and the heap -/
def rI (z : Int) (h2 : zH) : Option zV → zH → Prop := fun r h' => r = some (vI z) ∧ h' = h2
def rL (z : Int) (h2 : zH) : Option zV → zH → Prop := fun r h' => r = some (vL z) ∧ h' = h2
def rO (o : Option Nat) (h2 : zH) : Option zV → zH → Prop := fun r h' => r = some (vO o) ∧ h' = h2
def rV (h2 : zH) : Option zV → zH → Prop := fun r h' => r = none ∧ h' = h2
/-- a function with another value at a place -/
def up {α : Type} (f : Nat → α) (k : Nat) (z : α) : Nat → α := fun j => if j = k then z else f j
theorem up_s {α : Type} (f : Nat → α) (k : Nat) (z : α) : up f k z k = z := by simp [up]
theorem up_n {α : Type} (f : Nat → α) {k j : Nat} (z : α) (h : j ≠ k) : up f k z j = f j := by simp [up, h]
theorem zH_ext {h h' : zH} (h0 : h.1 = h'.1) (h1 : gI h = gI h') (h2 : gL h = gL h') (h3 : gR h = gR h') : h = h' := by
  obtain ⟨a, b, c, d⟩ := h
  obtain ⟨a', b', c', d'⟩ := h'
  simp only [gI, gL, gR] at *
  subst h0; subst h1; subst h2; subst h3
  rfl
theorem sI_eq (h : zH) (a k : Nat) (z : Int) : sI h a k z = sA h a (up (gI h a) k z) := by
  refine zH_ext rfl ?_ rfl rfl
  funext b j
  simp only [mI_sI, mI_sA, up]
  by_cases hb : b = a
  · subst hb; by_cases hj : j = k <;> simp [hj]
  · simp [hb]
theorem sI_sA (h : zH) (a k : Nat) (z : Int) (f : Nat → Int) : sI (sA h a f) a k z = sA h a (up f k z) := by
  refine zH_ext rfl ?_ rfl rfl
  funext b j
  simp only [mI_sI, mI_sA, up]
  by_cases hb : b = a
  · subst hb; by_cases hj : j = k <;> simp [hj]
  · simp [hb]
theorem sA_sA (h : zH) (a : Nat) (f g : Nat → Int) : sA (sA h a f) a g = sA h a g := by
  refine zH_ext rfl ?_ rfl rfl
  funext b j
  simp only [mI_sA]
  by_cases hb : b = a <;> simp [hb]
theorem sA_comm (h : zH) {a b : Nat} (hab : a ≠ b) (f g : Nat → Int) : sA (sA h a f) b g = sA (sA h b g) a f := by
  refine zH_ext rfl ?_ rfl rfl
  funext c j
  simp only [mI_sA]
  by_cases h1 : c = a <;> by_cases h2 : c = b <;> simp_all
theorem sA_self (h : zH) (a : Nat) : sA h a (gI h a) = h := by
  refine zH_ext rfl ?_ rfl rfl
  funext b j
  simp only [mI_sA]
  by_cases hb : b = a <;> simp [hb]
theorem mI_sAs (h : zH) (a : Nat) (f : Nat → Int) : gI (sA h a f) a = f := by funext j; simp [mI_sA]
theorem mI_sAn (h : zH) {a b : Nat} (f : Nat → Int) (hb : b ≠ a) : gI (sA h a f) b = gI h b := by funext j; simp [mI_sA, hb]
/-- nothing but the cells of S has changed -/
def Fr (S : Nat → Prop) (h h' : zH) : Prop := h'.1 = h.1 ∧ ∀ a, ¬ S a → gI h' a = gI h a ∧ gL h' a = gL h a ∧ gR h' a = gR h a
theorem Fr.rf {S : Nat → Prop} {h : zH} : Fr S h h := ⟨rfl, fun _ _ => ⟨rfl, rfl, rfl⟩⟩
theorem Fr.tr {S T : Nat → Prop} {h h1 h2 : zH} (f : Fr S h h1) (g : Fr T h1 h2) : Fr (fun a => S a ∨ T a) h h2 := by
  refine ⟨g.1.trans f.1, fun a ha => ?_⟩
  obtain ⟨p1, p2, p3⟩ := f.2 a (fun q => ha (Or.inl q))
  obtain ⟨q1, q2, q3⟩ := g.2 a (fun q => ha (Or.inr q))
  exact ⟨q1.trans p1, q2.trans p2, q3.trans p3⟩
theorem Fr.mono {S T : Nat → Prop} {h h1 : zH} (f : Fr S h h1) (hs : ∀ a, S a → T a) : Fr T h h1 := ⟨f.1, fun a ha => f.2 a (fun q => ha (hs a q))⟩
theorem Fr.tr' {S T U : Nat → Prop} {h h1 h2 : zH} (f : Fr S h h1) (g : Fr T h1 h2) (s1 : ∀ a, S a → U a) (s2 : ∀ a, T a → U a) : Fr U h h2 := (f.tr g).mono (fun a q => q.elim (s1 a) (s2 a))
theorem Fr.sI (S : Nat → Prop) (h : zH) (a k : Nat) (z : Int) (ha : S a) : Fr S h (sI h a k z) := ⟨rfl, fun b hb => ⟨sI_ne (fun q => hb (q ▸ ha)), rfl, rfl⟩⟩
theorem Fr.sL (S : Nat → Prop) (h : zH) (a k : Nat) (z : Int) (ha : S a) : Fr S h (sL h a k z) := ⟨rfl, fun b hb => ⟨rfl, sL_ne (fun q => hb (q ▸ ha)), rfl⟩⟩
theorem Fr.sR (S : Nat → Prop) (h : zH) (a k : Nat) (o : Option Nat) (ha : S a) : Fr S h (sR h a k o) := ⟨rfl, fun b hb => ⟨rfl, rfl, sR_ne (fun q => hb (q ▸ ha))⟩⟩
theorem Fr.sA (S : Nat → Prop) (h : zH) (a : Nat) (f : Nat → Int) (ha : S a) : Fr S h (sA h a f) := ⟨rfl, fun b hb => ⟨mI_sAn h f (fun q => hb (q ▸ ha)), rfl, rfl⟩⟩
theorem Fr.K {S : Nat → Prop} {h h' : zH} (f : Fr S h h') : gK h' = gK h := by unfold gK; rw [f.1]
theorem Fr.S {S : Nat → Prop} {h h' : zH} (f : Fr S h h') : gS h' = gS h := by unfold gS; rw [f.1]
theorem Fr.I {S : Nat → Prop} {h h' : zH} (f : Fr S h h') {a : Nat} (ha : ¬ S a) : gI h' a = gI h a := (f.2 a ha).1
theorem Fr.L {S : Nat → Prop} {h h' : zH} (f : Fr S h h') {a : Nat} (ha : ¬ S a) : gL h' a = gL h a := (f.2 a ha).2.1
theorem Fr.R {S : Nat → Prop} {h h' : zH} (f : Fr S h h') {a : Nat} (ha : ¬ S a) : gR h' a = gR h a := (f.2 a ha).2.2
theorem mI_s1 (h : zH) (a k : Nat) (z : Int) : gI (sI h a k z) a k = z := by simp [mI_sI]
theorem mI_s2 (h : zH) {a k : Nat} (z : Int) {b j : Nat} (hn : b ≠ a ∨ j ≠ k) : gI (sI h a k z) b j = gI h b j := by
  rw [mI_sI, if_neg]
  omega
theorem mL_s1 (h : zH) (a k : Nat) (z : Int) : gL (sL h a k z) a k = z := by simp [mL_sL]
theorem mL_s2 (h : zH) {a k : Nat} (z : Int) {b j : Nat} (hn : b ≠ a ∨ j ≠ k) : gL (sL h a k z) b j = gL h b j := by
  rw [mL_sL, if_neg]
  omega
theorem mR_s1 (h : zH) (a k : Nat) (z : Option Nat) : gR (sR h a k z) a k = z := by simp [mR_sR]
theorem mR_s2 (h : zH) {a k : Nat} (z : Option Nat) {b j : Nat} (hn : b ≠ a ∨ j ≠ k) : gR (sR h a k z) b j = gR h b j := by
  rw [mR_sR, if_neg]
  omega
theorem mA_s1 (h : zH) (a : Nat) (f : Nat → Int) (j : Nat) : gI (sA h a f) a j = f j := by simp [mI_sA]
theorem mA_s2 (h : zH) {a : Nat} (f : Nat → Int) {b : Nat} (j : Nat) (hn : b ≠ a) : gI (sA h a f) b j = gI h b j := by simp [mI_sA, hn]
theorem brT {c P Q : Prop} (h : c) : ((c → P) ∧ (¬ c → Q)) = P := by simp [h]
theorem brF {c P Q : Prop} (h : ¬ c) : ((c → P) ∧ (¬ c → Q)) = Q := by simp [h]
theorem brT' {c P Q : Prop} (h : c) : ((¬ c → P) ∧ (c → Q)) = Q := by simp [h]
theorem brF' {c P Q : Prop} (h : ¬ c) : ((¬ c → P) ∧ (c → Q)) = P := by simp [h]
-- STOPS
theorem tkX0_init : z_op tbX0_init 7 = o_stop ∧ z_op tbX0_init 26 = o_stop ∧ z_op tbX0_init 30 = o_stop := ⟨rfl, rfl, rfl⟩
theorem tkX0_keep : z_op tbX0_keep 56 = o_stop := rfl
theorem tkX0_giveBack : z_op tbX0_giveBack 42 = o_stop := rfl
theorem tkX1_init : z_op tbX1_init 5 = o_stop ∧ z_op tbX1_init 9 = o_stop ∧ z_op tbX1_init 16 = o_stop ∧ z_op tbX1_init 20 = o_stop ∧ z_op tbX1_init 29 = o_stop ∧ z_op tbX1_init 37 = o_stop ∧ z_op tbX1_init 45 = o_stop ∧ z_op tbX1_init 53 = o_stop := ⟨rfl, rfl, rfl, rfl, rfl, rfl, rfl, rfl⟩
theorem tkX1_load : z_op tbX1_load 15 = o_stop ∧ z_op tbX1_load 23 = o_stop := ⟨rfl, rfl⟩
theorem tkX1_hasSolution : z_op tbX1_hasSolution 1 = o_stop ∧ z_op tbX1_hasSolution 20 = o_stop := ⟨rfl, rfl⟩
theorem tkX1_versionOf : z_op tbX1_versionOf 5 = o_stop ∧ z_op tbX1_versionOf 8 = o_stop ∧ z_op tbX1_versionOf 20 = o_stop := ⟨rfl, rfl, rfl⟩
theorem tkX1_numberOf : z_op tbX1_numberOf 36 = o_stop ∧ z_op tbX1_numberOf 48 = o_stop ∧ z_op tbX1_numberOf 53 = o_stop := ⟨rfl, rfl, rfl⟩
theorem tkX1_appliedCount : z_op tbX1_appliedCount 12 = o_stop ∧ z_op tbX1_appliedCount 27 = o_stop := ⟨rfl, rfl⟩
theorem tkX1_differences : z_op tbX1_differences 12 = o_stop ∧ z_op tbX1_differences 17 = o_stop := ⟨rfl, rfl⟩
theorem tkX1_solutionCount : z_op tbX1_solutionCount 1 = o_stop ∧ z_op tbX1_solutionCount 13 = o_stop := ⟨rfl, rfl⟩
theorem tkX1_isPossible : z_op tbX1_isPossible 1 = o_stop ∧ z_op tbX1_isPossible 14 = o_stop := ⟨rfl, rfl⟩
theorem tkX1_valuesLeft : z_op tbX1_valuesLeft 1 = o_stop ∧ z_op tbX1_valuesLeft 20 = o_stop ∧ z_op tbX1_valuesLeft 36 = o_stop := ⟨rfl, rfl, rfl⟩
theorem tkX1_refusedRules : z_op tbX1_refusedRules 1 = o_stop ∧ z_op tbX1_refusedRules 51 = o_stop := ⟨rfl, rfl⟩
theorem tkX1_reasonLength : z_op tbX1_reasonLength 1 = o_stop ∧ z_op tbX1_reasonLength 5 = o_stop := ⟨rfl, rfl⟩
theorem tkX1_reasonAt : z_op tbX1_reasonAt 4 = o_stop ∧ z_op tbX1_reasonAt 18 = o_stop ∧ z_op tbX1_reasonAt 38 = o_stop := ⟨rfl, rfl, rfl⟩
theorem tkX1_findReasons : z_op tbX1_findReasons 53 = o_stop ∧ z_op tbX1_findReasons 78 = o_stop := ⟨rfl, rfl⟩
theorem tkX1_reachFrom : z_op tbX1_reachFrom 18 = o_stop ∧ z_op tbX1_reachFrom 58 = o_stop ∧ z_op tbX1_reachFrom 74 = o_stop ∧ z_op tbX1_reachFrom 94 = o_stop ∧ z_op tbX1_reachFrom 123 = o_stop := ⟨rfl, rfl, rfl, rfl, rfl⟩
theorem tkX2_init : z_op tbX2_init 7 = o_stop ∧ z_op tbX2_init 15 = o_stop ∧ z_op tbX2_init 23 = o_stop ∧ z_op tbX2_init 31 = o_stop ∧ z_op tbX2_init 39 = o_stop := ⟨rfl, rfl, rfl, rfl, rfl⟩
theorem tkX2_load : z_op tbX2_load 42 = o_stop ∧ z_op tbX2_load 56 = o_stop ∧ z_op tbX2_load 65 = o_stop ∧ z_op tbX2_load 136 = o_stop ∧ z_op tbX2_load 144 = o_stop ∧ z_op tbX2_load 182 = o_stop ∧ z_op tbX2_load 205 = o_stop := ⟨rfl, rfl, rfl, rfl, rfl, rfl, rfl⟩
theorem tkX2_ruleApplies : z_op tbX2_ruleApplies 29 = o_stop := rfl
theorem tkX2_impose : z_op tbX2_impose 84 = o_stop ∧ z_op tbX2_impose 94 = o_stop := ⟨rfl, rfl⟩
theorem tkX2_imposeRule : z_op tbX2_imposeRule 15 = o_stop ∧ z_op tbX2_imposeRule 53 = o_stop := ⟨rfl, rfl⟩
theorem tkX2_takeUnfit : z_op tbX2_takeUnfit 52 = o_stop := rfl
theorem tkX2_best : z_op tbX2_best 2 = o_stop ∧ z_op tbX2_best 13 = o_stop ∧ z_op tbX2_best 28 = o_stop ∧ z_op tbX2_best 53 = o_stop := ⟨rfl, rfl, rfl, rfl⟩
theorem tkX2_isSolvable : z_op tbX2_isSolvable 2 = o_stop ∧ z_op tbX2_isSolvable 13 = o_stop := ⟨rfl, rfl⟩
theorem tkX2_isSolvableWith : z_op tbX2_isSolvableWith 2 = o_stop ∧ z_op tbX2_isSolvableWith 56 = o_stop := ⟨rfl, rfl⟩
theorem tkX2_firstWithin : z_op tbX2_firstWithin 60 = o_stop ∧ z_op tbX2_firstWithin 76 = o_stop ∧ z_op tbX2_firstWithin 95 = o_stop ∧ z_op tbX2_firstWithin 112 = o_stop := ⟨rfl, rfl, rfl, rfl⟩
theorem tkX2_leastCost : z_op tbX2_leastCost 6 = o_stop ∧ z_op tbX2_leastCost 27 = o_stop ∧ z_op tbX2_leastCost 38 = o_stop ∧ z_op tbX2_leastCost 48 = o_stop := ⟨rfl, rfl, rfl, rfl⟩
theorem tkX2_changesOf : z_op tbX2_changesOf 9 = o_stop ∧ z_op tbX2_changesOf 17 = o_stop := ⟨rfl, rfl⟩
theorem tkX2_presentOf : z_op tbX2_presentOf 9 = o_stop := rfl
theorem tkX2_solutionsOf : z_op tbX2_solutionsOf 2 = o_stop ∧ z_op tbX2_solutionsOf 9 = o_stop ∧ z_op tbX2_solutionsOf 26 = o_stop := ⟨rfl, rfl, rfl⟩
theorem tkX2_solutionsFrom : z_op tbX2_solutionsFrom 19 = o_stop ∧ z_op tbX2_solutionsFrom 22 = o_stop ∧ z_op tbX2_solutionsFrom 25 = o_stop ∧ z_op tbX2_solutionsFrom 84 = o_stop ∧ z_op tbX2_solutionsFrom 107 = o_stop := ⟨rfl, rfl, rfl, rfl, rfl⟩
theorem tkX2_narrowedSpots : z_op tbX2_narrowedSpots 50 = o_stop := rfl
theorem tkX2_narrowByRule : z_op tbX2_narrowByRule 45 = o_stop ∧ z_op tbX2_narrowByRule 88 = o_stop := ⟨rfl, rfl⟩
theorem tkX3_init : z_op tbX3_init 6 = o_stop ∧ z_op tbX3_init 12 = o_stop ∧ z_op tbX3_init 19 = o_stop := ⟨rfl, rfl, rfl⟩
theorem tkX3_trimmed : z_op tbX3_trimmed 0 = o_stop ∧ z_op tbX3_trimmed 8 = o_stop ∧ z_op tbX3_trimmed 35 = o_stop := ⟨rfl, rfl, rfl⟩
theorem tkX5_init : z_op tbX5_init 7 = o_stop ∧ z_op tbX5_init 18 = o_stop ∧ z_op tbX5_init 24 = o_stop ∧ z_op tbX5_init 31 = o_stop ∧ z_op tbX5_init 37 = o_stop := ⟨rfl, rfl, rfl, rfl, rfl⟩
theorem tkX5_readAsRange : z_op tbX5_readAsRange 1 = o_stop ∧ z_op tbX5_readAsRange 9 = o_stop ∧ z_op tbX5_readAsRange 13 = o_stop := ⟨rfl, rfl, rfl⟩
theorem tkX5_rangeHas : z_op tbX5_rangeHas 5 = o_stop := rfl
theorem tkX5_readAsRule : z_op tbX5_readAsRule 1 = o_stop ∧ z_op tbX5_readAsRule 8 = o_stop ∧ z_op tbX5_readAsRule 19 = o_stop ∧ z_op tbX5_readAsRule 40 = o_stop ∧ z_op tbX5_readAsRule 51 = o_stop ∧ z_op tbX5_readAsRule 65 = o_stop ∧ z_op tbX5_readAsRule 76 = o_stop ∧ z_op tbX5_readAsRule 82 = o_stop ∧ z_op tbX5_readAsRule 97 = o_stop ∧ z_op tbX5_readAsRule 109 = o_stop ∧ z_op tbX5_readAsRule 120 = o_stop ∧ z_op tbX5_readAsRule 124 = o_stop := ⟨rfl, rfl, rfl, rfl, rfl, rfl, rfl, rfl, rfl, rfl, rfl, rfl⟩
theorem tkX5_makeRule : z_op tbX5_makeRule 0 = o_stop ∧ z_op tbX5_makeRule 16 = o_stop ∧ z_op tbX5_makeRule 31 = o_stop ∧ z_op tbX5_makeRule 34 = o_stop := ⟨rfl, rfl, rfl, rfl⟩
theorem tkX5_start : z_op tbX5_start 11 = o_stop := rfl
theorem tkX5_take : z_op tbX5_take 8 = o_stop ∧ z_op tbX5_take 28 = o_stop := ⟨rfl, rfl⟩
theorem tkX5_parseBetween : z_op tbX5_parseBetween 1 = o_stop ∧ z_op tbX5_parseBetween 40 = o_stop := ⟨rfl, rfl⟩
theorem tkX5_parseRange : z_op tbX5_parseRange 1 = o_stop ∧ z_op tbX5_parseRange 26 = o_stop ∧ z_op tbX5_parseRange 38 = o_stop ∧ z_op tbX5_parseRange 44 = o_stop := ⟨rfl, rfl, rfl, rfl⟩
theorem tkX5_parsePart : z_op tbX5_parsePart 13 = o_stop ∧ z_op tbX5_parsePart 32 = o_stop ∧ z_op tbX5_parsePart 35 = o_stop ∧ z_op tbX5_parsePart 42 = o_stop := ⟨rfl, rfl, rfl, rfl⟩
theorem tkX5_startsBound : z_op tbX5_startsBound 7 = o_stop ∧ z_op tbX5_startsBound 14 = o_stop := ⟨rfl, rfl⟩
theorem tkX5_parseBound : z_op tbX5_parseBound 10 = o_stop ∧ z_op tbX5_parseBound 18 = o_stop ∧ z_op tbX5_parseBound 25 = o_stop ∧ z_op tbX5_parseBound 54 = o_stop ∧ z_op tbX5_parseBound 75 = o_stop ∧ z_op tbX5_parseBound 79 = o_stop ∧ z_op tbX5_parseBound 97 = o_stop ∧ z_op tbX5_parseBound 100 = o_stop ∧ z_op tbX5_parseBound 114 = o_stop ∧ z_op tbX5_parseBound 117 = o_stop := ⟨rfl, rfl, rfl, rfl, rfl, rfl, rfl, rfl, rfl, rfl⟩
theorem tkX5_parseVersion : z_op tbX5_parseVersion 25 = o_stop ∧ z_op tbX5_parseVersion 47 = o_stop ∧ z_op tbX5_parseVersion 50 = o_stop ∧ z_op tbX5_parseVersion 68 = o_stop ∧ z_op tbX5_parseVersion 109 = o_stop ∧ z_op tbX5_parseVersion 112 = o_stop ∧ z_op tbX5_parseVersion 125 = o_stop := ⟨rfl, rfl, rfl, rfl, rfl, rfl, rfl⟩
theorem tkX5_highEnd : z_op tbX5_highEnd 52 = o_stop := rfl
theorem tkX6_init : z_op tbX6_init 7 = o_stop ∧ z_op tbX6_init 15 = o_stop ∧ z_op tbX6_init 23 = o_stop ∧ z_op tbX6_init 31 = o_stop := ⟨rfl, rfl, rfl, rfl⟩
theorem tkX6_copyFrom : z_op tbX6_copyFrom 12 = o_stop ∧ z_op tbX6_copyFrom 27 = o_stop ∧ z_op tbX6_copyFrom 42 = o_stop := ⟨rfl, rfl, rfl⟩
theorem tkX6_versionCount : z_op tbX6_versionCount 1 = o_stop := rfl
theorem tkX6_isFullAt : z_op tbX6_isFullAt 2 = o_stop := rfl
theorem tkX6_versionAt : z_op tbX6_versionAt 1 = o_stop := rfl
theorem tkX6_placeOf : z_op tbX6_placeOf 1 = o_stop := rfl
theorem tkX6_insertVersion : z_op tbX6_insertVersion 1 = o_stop ∧ z_op tbX6_insertVersion 9 = o_stop := ⟨rfl, rfl⟩
theorem tkX6_removeVersion : z_op tbX6_removeVersion 3 = o_stop := rfl
theorem tkX6_lockOf : z_op tbX6_lockOf 1 = o_stop := rfl
theorem tkX6_putLock : z_op tbX6_putLock 1 = o_stop := rfl
theorem tkX6_activeRules : z_op tbX6_activeRules 28 = o_stop := rfl
theorem tkX6_valuesIn : z_op tbX6_valuesIn 3 = o_stop ∧ z_op tbX6_valuesIn 37 = o_stop := ⟨rfl, rfl⟩
theorem tkX7_init : z_op tbX7_init 5 = o_stop ∧ z_op tbX7_init 9 = o_stop ∧ z_op tbX7_init 16 = o_stop ∧ z_op tbX7_init 20 = o_stop ∧ z_op tbX7_init 49 = o_stop ∧ z_op tbX7_init 53 = o_stop ∧ z_op tbX7_init 60 = o_stop ∧ z_op tbX7_init 64 = o_stop := ⟨rfl, rfl, rfl, rfl, rfl, rfl, rfl, rfl⟩
theorem tkX7_publish : z_op tbX7_publish 1 = o_stop ∧ z_op tbX7_publish 8 = o_stop ∧ z_op tbX7_publish 23 = o_stop ∧ z_op tbX7_publish 38 = o_stop ∧ z_op tbX7_publish 48 = o_stop ∧ z_op tbX7_publish 57 = o_stop ∧ z_op tbX7_publish 65 = o_stop := ⟨rfl, rfl, rfl, rfl, rfl, rfl, rfl⟩
theorem tkX7_yank : z_op tbX7_yank 1 = o_stop ∧ z_op tbX7_yank 8 = o_stop ∧ z_op tbX7_yank 23 = o_stop ∧ z_op tbX7_yank 34 = o_stop ∧ z_op tbX7_yank 43 = o_stop ∧ z_op tbX7_yank 51 = o_stop := ⟨rfl, rfl, rfl, rfl, rfl, rfl⟩
theorem tkX7_version : z_op tbX7_version 1 = o_stop ∧ z_op tbX7_version 25 = o_stop ∧ z_op tbX7_version 37 = o_stop := ⟨rfl, rfl, rfl⟩
theorem tkX7_setFeature : z_op tbX7_setFeature 14 = o_stop := rfl
theorem tkX7_setLock : z_op tbX7_setLock 1 = o_stop ∧ z_op tbX7_setLock 13 = o_stop ∧ z_op tbX7_setLock 23 = o_stop ∧ z_op tbX7_setLock 31 = o_stop ∧ z_op tbX7_setLock 41 = o_stop := ⟨rfl, rfl, rfl, rfl, rfl⟩
theorem tkX7_takeLock : z_op tbX7_takeLock 4 = o_stop ∧ z_op tbX7_takeLock 18 = o_stop ∧ z_op tbX7_takeLock 30 = o_stop ∧ z_op tbX7_takeLock 51 = o_stop ∧ z_op tbX7_takeLock 54 = o_stop ∧ z_op tbX7_takeLock 67 = o_stop := ⟨rfl, rfl, rfl, rfl, rfl, rfl⟩
theorem tkX7_locked : z_op tbX7_locked 1 = o_stop ∧ z_op tbX7_locked 12 = o_stop := ⟨rfl, rfl⟩
theorem tkX7_undo : z_op tbX7_undo 4 = o_stop ∧ z_op tbX7_undo 21 = o_stop ∧ z_op tbX7_undo 28 = o_stop ∧ z_op tbX7_undo 35 = o_stop := ⟨rfl, rfl, rfl, rfl⟩
theorem tkX7_type : z_op tbX7_type 17 = o_stop ∧ z_op tbX7_type 31 = o_stop ∧ z_op tbX7_type 38 = o_stop := ⟨rfl, rfl, rfl⟩
theorem tkX7_clearText : z_op tbX7_clearText 4 = o_stop ∧ z_op tbX7_clearText 12 = o_stop := ⟨rfl, rfl⟩
theorem tkX7_fault : z_op tbX7_fault 8 = o_stop ∧ z_op tbX7_fault 18 = o_stop := ⟨rfl, rfl⟩
theorem tkX7_contains : z_op tbX7_contains 1 = o_stop ∧ z_op tbX7_contains 14 = o_stop ∧ z_op tbX7_contains 29 = o_stop := ⟨rfl, rfl, rfl⟩
theorem tkX7_add : z_op tbX7_add 4 = o_stop ∧ z_op tbX7_add 18 = o_stop ∧ z_op tbX7_add 30 = o_stop ∧ z_op tbX7_add 41 = o_stop ∧ z_op tbX7_add 44 = o_stop ∧ z_op tbX7_add 51 = o_stop ∧ z_op tbX7_add 58 = o_stop := ⟨rfl, rfl, rfl, rfl, rfl, rfl, rfl⟩
theorem tkX7_drop : z_op tbX7_drop 5 = o_stop ∧ z_op tbX7_drop 15 = o_stop ∧ z_op tbX7_drop 23 = o_stop ∧ z_op tbX7_drop 30 = o_stop := ⟨rfl, rfl, rfl, rfl⟩
theorem tkX7_rule : z_op tbX7_rule 5 = o_stop ∧ z_op tbX7_rule 100 = o_stop ∧ z_op tbX7_rule 124 = o_stop ∧ z_op tbX7_rule 127 = o_stop ∧ z_op tbX7_rule 143 = o_stop ∧ z_op tbX7_rule 146 = o_stop := ⟨rfl, rfl, rfl, rfl, rfl, rfl⟩
theorem tkX7_solve : z_op tbX7_solve 16 = o_stop ∧ z_op tbX7_solve 27 = o_stop := ⟨rfl, rfl⟩
theorem tkX7_chosen : z_op tbX7_chosen 1 = o_stop ∧ z_op tbX7_chosen 14 = o_stop ∧ z_op tbX7_chosen 25 = o_stop := ⟨rfl, rfl, rfl⟩
theorem tkX7_solutions : z_op tbX7_solutions 20 = o_stop := rfl
theorem tkX7_possible : z_op tbX7_possible 1 = o_stop ∧ z_op tbX7_possible 25 = o_stop ∧ z_op tbX7_possible 50 = o_stop := ⟨rfl, rfl, rfl⟩
theorem tkX7_narrowed : z_op tbX7_narrowed 1 = o_stop ∧ z_op tbX7_narrowed 24 = o_stop ∧ z_op tbX7_narrowed 36 = o_stop := ⟨rfl, rfl, rfl⟩
theorem tkX7_why : z_op tbX7_why 1 = o_stop ∧ z_op tbX7_why 19 = o_stop ∧ z_op tbX7_why 30 = o_stop ∧ z_op tbX7_why 45 = o_stop ∧ z_op tbX7_why 75 = o_stop := ⟨rfl, rfl, rfl, rfl, rfl⟩
theorem tkX7_refusal : z_op tbX7_refusal 12 = o_stop ∧ z_op tbX7_refusal 25 = o_stop ∧ z_op tbX7_refusal 35 = o_stop ∧ z_op tbX7_refusal 43 = o_stop := ⟨rfl, rfl, rfl, rfl⟩
theorem tkX7_wouldChange : z_op tbX7_wouldChange 1 = o_stop ∧ z_op tbX7_wouldChange 8 = o_stop ∧ z_op tbX7_wouldChange 21 = o_stop ∧ z_op tbX7_wouldChange 36 = o_stop ∧ z_op tbX7_wouldChange 58 = o_stop ∧ z_op tbX7_wouldChange 75 = o_stop ∧ z_op tbX7_wouldChange 88 = o_stop ∧ z_op tbX7_wouldChange 100 = o_stop ∧ z_op tbX7_wouldChange 107 = o_stop ∧ z_op tbX7_wouldChange 114 = o_stop ∧ z_op tbX7_wouldChange 128 = o_stop := ⟨rfl, rfl, rfl, rfl, rfl, rfl, rfl, rfl, rfl, rfl, rfl⟩
theorem tkX7_count : z_op tbX7_count 48 = o_stop ∧ z_op tbX7_count 56 = o_stop ∧ z_op tbX7_count 59 = o_stop ∧ z_op tbX7_count 67 = o_stop ∧ z_op tbX7_count 83 = o_stop ∧ z_op tbX7_count 91 = o_stop ∧ z_op tbX7_count 99 = o_stop := ⟨rfl, rfl, rfl, rfl, rfl, rfl, rfl⟩
theorem tkX7_digest : z_op tbX7_digest 19 = o_stop ∧ z_op tbX7_digest 42 = o_stop ∧ z_op tbX7_digest 59 = o_stop ∧ z_op tbX7_digest 84 = o_stop ∧ z_op tbX7_digest 104 = o_stop ∧ z_op tbX7_digest 115 = o_stop ∧ z_op tbX7_digest 131 = o_stop := ⟨rfl, rfl, rfl, rfl, rfl, rfl, rfl⟩
theorem tkX7_digestPack : z_op tbX7_digestPack 13 = o_stop ∧ z_op tbX7_digestPack 32 = o_stop ∧ z_op tbX7_digestPack 56 = o_stop ∧ z_op tbX7_digestPack 68 = o_stop ∧ z_op tbX7_digestPack 84 = o_stop := ⟨rfl, rfl, rfl, rfl, rfl⟩
theorem tkX7_digestOutcome : z_op tbX7_digestOutcome 6 = o_stop ∧ z_op tbX7_digestOutcome 36 = o_stop ∧ z_op tbX7_digestOutcome 78 = o_stop ∧ z_op tbX7_digestOutcome 96 = o_stop := ⟨rfl, rfl, rfl, rfl⟩
theorem tkX7_beginChange : z_op tbX7_beginChange 8 = o_stop ∧ z_op tbX7_beginChange 15 = o_stop := ⟨rfl, rfl⟩
theorem tkX8_init : z_op tbX8_init 8 = o_stop ∧ z_op tbX8_init 17 = o_stop ∧ z_op tbX8_init 25 = o_stop ∧ z_op tbX8_init 33 = o_stop ∧ z_op tbX8_init 41 = o_stop ∧ z_op tbX8_init 49 = o_stop ∧ z_op tbX8_init 57 = o_stop ∧ z_op tbX8_init 65 = o_stop ∧ z_op tbX8_init 73 = o_stop ∧ z_op tbX8_init 81 = o_stop ∧ z_op tbX8_init 89 = o_stop ∧ z_op tbX8_init 97 = o_stop ∧ z_op tbX8_init 105 = o_stop ∧ z_op tbX8_init 113 = o_stop ∧ z_op tbX8_init 121 = o_stop := ⟨rfl, rfl, rfl, rfl, rfl, rfl, rfl, rfl, rfl, rfl, rfl, rfl, rfl, rfl, rfl⟩
theorem tkX8_isPack : z_op tbX8_isPack 4 = o_stop := rfl
theorem tkX8_isVersion : z_op tbX8_isVersion 5 = o_stop := rfl
theorem tkX8_publish : z_op tbX8_publish 1 = o_stop ∧ z_op tbX8_publish 8 = o_stop ∧ z_op tbX8_publish 20 = o_stop ∧ z_op tbX8_publish 47 = o_stop ∧ z_op tbX8_publish 53 = o_stop := ⟨rfl, rfl, rfl, rfl, rfl⟩
theorem tkX8_yank : z_op tbX8_yank 1 = o_stop ∧ z_op tbX8_yank 8 = o_stop ∧ z_op tbX8_yank 20 = o_stop ∧ z_op tbX8_yank 33 = o_stop ∧ z_op tbX8_yank 39 = o_stop := ⟨rfl, rfl, rfl, rfl, rfl⟩
theorem tkX8_version : z_op tbX8_version 1 = o_stop := rfl
theorem tkX8_setFeature : z_op tbX8_setFeature 3 = o_stop ∧ z_op tbX8_setFeature 13 = o_stop := ⟨rfl, rfl⟩
theorem tkX8_setLock : z_op tbX8_setLock 1 = o_stop ∧ z_op tbX8_setLock 13 = o_stop ∧ z_op tbX8_setLock 23 = o_stop := ⟨rfl, rfl, rfl⟩
theorem tkX8_locked : z_op tbX8_locked 1 = o_stop := rfl
theorem tkX8_type : z_op tbX8_type 4 = o_stop := rfl
theorem tkX8_blanks : z_op tbX8_blanks 1 = o_stop := rfl
theorem tkX8_isDigit : z_op tbX8_isDigit 1 = o_stop ∧ z_op tbX8_isDigit 8 = o_stop := ⟨rfl, rfl⟩
theorem tkX8_isBound : z_op tbX8_isBound 1 = o_stop ∧ z_op tbX8_isBound 36 = o_stop := ⟨rfl, rfl⟩
theorem tkX8_bound : z_op tbX8_bound 1 = o_stop ∧ z_op tbX8_bound 6 = o_stop ∧ z_op tbX8_bound 13 = o_stop ∧ z_op tbX8_bound 18 = o_stop ∧ z_op tbX8_bound 61 = o_stop ∧ z_op tbX8_bound 98 = o_stop ∧ z_op tbX8_bound 118 = o_stop := ⟨rfl, rfl, rfl, rfl, rfl, rfl, rfl⟩
theorem tkX8_versions : z_op tbX8_versions 22 = o_stop ∧ z_op tbX8_versions 33 = o_stop ∧ z_op tbX8_versions 55 = o_stop ∧ z_op tbX8_versions 99 = o_stop ∧ z_op tbX8_versions 106 = o_stop ∧ z_op tbX8_versions 113 = o_stop ∧ z_op tbX8_versions 122 = o_stop ∧ z_op tbX8_versions 126 = o_stop ∧ z_op tbX8_versions 201 = o_stop ∧ z_op tbX8_versions 226 = o_stop ∧ z_op tbX8_versions 263 = o_stop ∧ z_op tbX8_versions 316 = o_stop ∧ z_op tbX8_versions 330 = o_stop := ⟨rfl, rfl, rfl, rfl, rfl, rfl, rfl, rfl, rfl, rfl, rfl, rfl, rfl⟩
theorem tkX8_range : z_op tbX8_range 59 = o_stop ∧ z_op tbX8_range 71 = o_stop ∧ z_op tbX8_range 78 = o_stop ∧ z_op tbX8_range 116 = o_stop ∧ z_op tbX8_range 145 = o_stop := ⟨rfl, rfl, rfl, rfl, rfl⟩
theorem tkX8_pack : z_op tbX8_pack 1 = o_stop ∧ z_op tbX8_pack 10 = o_stop ∧ z_op tbX8_pack 17 = o_stop ∧ z_op tbX8_pack 33 = o_stop := ⟨rfl, rfl, rfl, rfl⟩
theorem tkX8_takesSign : z_op tbX8_takesSign 9 = o_stop ∧ z_op tbX8_takesSign 27 = o_stop ∧ z_op tbX8_takesSign 34 = o_stop := ⟨rfl, rfl, rfl⟩
theorem tkX8_feature : z_op tbX8_feature 8 = o_stop ∧ z_op tbX8_feature 27 = o_stop ∧ z_op tbX8_feature 31 = o_stop ∧ z_op tbX8_feature 38 = o_stop ∧ z_op tbX8_feature 50 = o_stop ∧ z_op tbX8_feature 68 = o_stop ∧ z_op tbX8_feature 75 = o_stop := ⟨rfl, rfl, rfl, rfl, rfl, rfl, rfl⟩
theorem tkX8_reads : z_op tbX8_reads 11 = o_stop ∧ z_op tbX8_reads 20 = o_stop ∧ z_op tbX8_reads 27 = o_stop ∧ z_op tbX8_reads 46 = o_stop ∧ z_op tbX8_reads 60 = o_stop ∧ z_op tbX8_reads 74 = o_stop ∧ z_op tbX8_reads 80 = o_stop ∧ z_op tbX8_reads 89 = o_stop ∧ z_op tbX8_reads 116 = o_stop ∧ z_op tbX8_reads 133 = o_stop ∧ z_op tbX8_reads 152 = o_stop ∧ z_op tbX8_reads 167 = o_stop := ⟨rfl, rfl, rfl, rfl, rfl, rfl, rfl, rfl, rfl, rfl, rfl, rfl⟩
theorem tkX8_fault : z_op tbX8_fault 2 = o_stop := rfl
theorem tkX8_contains : z_op tbX8_contains 1 = o_stop ∧ z_op tbX8_contains 12 = o_stop := ⟨rfl, rfl⟩
theorem tkX8_add : z_op tbX8_add 2 = o_stop ∧ z_op tbX8_add 32 = o_stop := ⟨rfl, rfl⟩
theorem tkX8_drop : z_op tbX8_drop 11 = o_stop ∧ z_op tbX8_drop 21 = o_stop := ⟨rfl, rfl⟩
theorem tkX8_isActive : z_op tbX8_isActive 3 = o_stop ∧ z_op tbX8_isActive 19 = o_stop := ⟨rfl, rfl⟩
theorem tkX8_within : z_op tbX8_within 44 = o_stop := rfl
theorem tkX8_rule : z_op tbX8_rule 11 = o_stop ∧ z_op tbX8_rule 21 = o_stop ∧ z_op tbX8_rule 38 = o_stop ∧ z_op tbX8_rule 49 = o_stop ∧ z_op tbX8_rule 69 = o_stop ∧ z_op tbX8_rule 85 = o_stop ∧ z_op tbX8_rule 89 = o_stop ∧ z_op tbX8_rule 92 = o_stop ∧ z_op tbX8_rule 101 = o_stop ∧ z_op tbX8_rule 106 = o_stop ∧ z_op tbX8_rule 109 = o_stop := ⟨rfl, rfl, rfl, rfl, rfl, rfl, rfl, rfl, rfl, rfl, rfl⟩
theorem tkX8_prepares : z_op tbX8_prepares 20 = o_stop ∧ z_op tbX8_prepares 32 = o_stop ∧ z_op tbX8_prepares 48 = o_stop ∧ z_op tbX8_prepares 52 = o_stop ∧ z_op tbX8_prepares 61 = o_stop ∧ z_op tbX8_prepares 66 = o_stop ∧ z_op tbX8_prepares 78 = o_stop ∧ z_op tbX8_prepares 89 = o_stop ∧ z_op tbX8_prepares 92 = o_stop ∧ z_op tbX8_prepares 125 = o_stop := ⟨rfl, rfl, rfl, rfl, rfl, rfl, rfl, rfl, rfl, rfl⟩
theorem tkX8_applies : z_op tbX8_applies 3 = o_stop ∧ z_op tbX8_applies 20 = o_stop := ⟨rfl, rfl⟩
theorem tkX8_fits : z_op tbX8_fits 16 = o_stop ∧ z_op tbX8_fits 22 = o_stop ∧ z_op tbX8_fits 31 = o_stop ∧ z_op tbX8_fits 40 = o_stop ∧ z_op tbX8_fits 64 = o_stop ∧ z_op tbX8_fits 83 = o_stop := ⟨rfl, rfl, rfl, rfl, rfl, rfl⟩
theorem tkX8_changes : z_op tbX8_changes 18 = o_stop := rfl
theorem tkX8_canBeBetter : z_op tbX8_canBeBetter 2 = o_stop ∧ z_op tbX8_canBeBetter 24 = o_stop := ⟨rfl, rfl⟩
theorem tkX8_finds : z_op tbX8_finds 117 = o_stop ∧ z_op tbX8_finds 132 = o_stop ∧ z_op tbX8_finds 161 = o_stop := ⟨rfl, rfl, rfl⟩
theorem tkX8_notes : z_op tbX8_notes 4 = o_stop ∧ z_op tbX8_notes 14 = o_stop := ⟨rfl, rfl⟩
theorem tkX8_solves : z_op tbX8_solves 1 = o_stop ∧ z_op tbX8_solves 8 = o_stop := ⟨rfl, rfl⟩
theorem tkX8_solve : z_op tbX8_solve 3 = o_stop ∧ z_op tbX8_solve 13 = o_stop ∧ z_op tbX8_solve 52 = o_stop := ⟨rfl, rfl, rfl⟩
theorem tkX8_chosen : z_op tbX8_chosen 1 = o_stop ∧ z_op tbX8_chosen 11 = o_stop ∧ z_op tbX8_chosen 25 = o_stop := ⟨rfl, rfl, rfl⟩
theorem tkX8_takeLock : z_op tbX8_takeLock 1 = o_stop ∧ z_op tbX8_takeLock 11 = o_stop ∧ z_op tbX8_takeLock 38 = o_stop := ⟨rfl, rfl, rfl⟩
theorem tkX8_solutions : z_op tbX8_solutions 5 = o_stop ∧ z_op tbX8_solutions 15 = o_stop ∧ z_op tbX8_solutions 21 = o_stop := ⟨rfl, rfl, rfl⟩
theorem tkX8_possible : z_op tbX8_possible 1 = o_stop ∧ z_op tbX8_possible 15 = o_stop ∧ z_op tbX8_possible 26 = o_stop ∧ z_op tbX8_possible 47 = o_stop ∧ z_op tbX8_possible 55 = o_stop := ⟨rfl, rfl, rfl, rfl, rfl⟩
theorem tkX8_narrowed : z_op tbX8_narrowed 1 = o_stop ∧ z_op tbX8_narrowed 10 = o_stop ∧ z_op tbX8_narrowed 20 = o_stop ∧ z_op tbX8_narrowed 59 = o_stop ∧ z_op tbX8_narrowed 97 = o_stop := ⟨rfl, rfl, rfl, rfl, rfl⟩
theorem tkX8_narrowsBy : z_op tbX8_narrowsBy 3 = o_stop ∧ z_op tbX8_narrowsBy 10 = o_stop := ⟨rfl, rfl⟩
theorem tkX8_requires : z_op tbX8_requires 12 = o_stop ∧ z_op tbX8_requires 24 = o_stop := ⟨rfl, rfl⟩
theorem tkX8_leads : z_op tbX8_leads 20 = o_stop ∧ z_op tbX8_leads 29 = o_stop ∧ z_op tbX8_leads 100 = o_stop ∧ z_op tbX8_leads 126 = o_stop ∧ z_op tbX8_leads 132 = o_stop := ⟨rfl, rfl, rfl, rfl, rfl⟩
theorem tkX8_first : z_op tbX8_first 26 = o_stop := rfl
theorem tkX8_why : z_op tbX8_why 1 = o_stop ∧ z_op tbX8_why 16 = o_stop ∧ z_op tbX8_why 37 = o_stop ∧ z_op tbX8_why 71 = o_stop ∧ z_op tbX8_why 145 = o_stop ∧ z_op tbX8_why 170 = o_stop ∧ z_op tbX8_why 177 = o_stop := ⟨rfl, rfl, rfl, rfl, rfl, rfl, rfl⟩
theorem tkX8_refusal : z_op tbX8_refusal 9 = o_stop ∧ z_op tbX8_refusal 15 = o_stop ∧ z_op tbX8_refusal 25 = o_stop := ⟨rfl, rfl, rfl⟩
theorem tkX8_refuses : z_op tbX8_refuses 39 = o_stop := rfl
theorem tkX8_wouldChange : z_op tbX8_wouldChange 1 = o_stop ∧ z_op tbX8_wouldChange 8 = o_stop ∧ z_op tbX8_wouldChange 18 = o_stop ∧ z_op tbX8_wouldChange 48 = o_stop ∧ z_op tbX8_wouldChange 61 = o_stop ∧ z_op tbX8_wouldChange 94 = o_stop ∧ z_op tbX8_wouldChange 103 = o_stop ∧ z_op tbX8_wouldChange 107 = o_stop ∧ z_op tbX8_wouldChange 148 = o_stop ∧ z_op tbX8_wouldChange 185 = o_stop ∧ z_op tbX8_wouldChange 188 = o_stop ∧ z_op tbX8_wouldChange 197 = o_stop := ⟨rfl, rfl, rfl, rfl, rfl, rfl, rfl, rfl, rfl, rfl, rfl, rfl⟩
theorem tkX8_actives : z_op tbX8_actives 18 = o_stop := rfl
theorem tkX8_count : z_op tbX8_count 53 = o_stop := rfl
theorem tkX8_digest : z_op tbX8_digest 18 = o_stop ∧ z_op tbX8_digest 21 = o_stop ∧ z_op tbX8_digest 64 = o_stop ∧ z_op tbX8_digest 83 = o_stop ∧ z_op tbX8_digest 90 = o_stop ∧ z_op tbX8_digest 93 = o_stop ∧ z_op tbX8_digest 100 = o_stop ∧ z_op tbX8_digest 103 = o_stop ∧ z_op tbX8_digest 138 = o_stop ∧ z_op tbX8_digest 141 = o_stop ∧ z_op tbX8_digest 160 = o_stop ∧ z_op tbX8_digest 163 = o_stop ∧ z_op tbX8_digest 173 = o_stop ∧ z_op tbX8_digest 198 = o_stop ∧ z_op tbX8_digest 201 = o_stop ∧ z_op tbX8_digest 219 = o_stop ∧ z_op tbX8_digest 237 = o_stop ∧ z_op tbX8_digest 263 = o_stop := ⟨rfl, rfl, rfl, rfl, rfl, rfl, rfl, rfl, rfl, rfl, rfl, rfl, rfl, rfl, rfl, rfl, rfl, rfl⟩
