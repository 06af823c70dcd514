/-! sequences of rules: the least one -/
def ltL : List Nat → List Nat → Prop
  | [], _ => False
  | _ :: _, [] => False
  | a :: l, b :: m => a < b ∨ (a = b ∧ ltL l m)
theorem lexL_rf : ∀ l : List Nat, lexL l l
  | [] => trivial
  | _ :: l => Or.inr ⟨rfl, lexL_rf l⟩
theorem lexL_lt : ∀ {l m : List Nat}, ltL l m → lexL l m
  | [], _, h => h.elim
  | _ :: _, [], h => h.elim
  | a :: l, b :: m, h => by
    rcases h with h | ⟨h1, h2⟩
    · exact Or.inl h
    · exact Or.inr ⟨h1, lexL_lt h2⟩
theorem lexL_cases : ∀ {l m : List Nat}, l.length = m.length → lexL l m → l = m ∨ ltL l m
  | [], [], _, _ => Or.inl rfl
  | [], _ :: _, h, _ => by simp at h
  | _ :: _, [], h, _ => by simp at h
  | a :: l, b :: m, h, q => by
    rcases q with q | ⟨rfl, q⟩
    · exact Or.inr (Or.inl q)
    · rcases lexL_cases (by simpa using h) q with e | e
      · exact Or.inl (by rw [e])
      · exact Or.inr (Or.inr ⟨rfl, e⟩)
theorem ltL_app : ∀ {l m : List Nat}, l.length = m.length → ltL l m → ∀ x y, ltL (l ++ x) (m ++ y)
  | [], _, _, h, _, _ => h.elim
  | _ :: _, [], _, h, _, _ => h.elim
  | a :: l, b :: m, hl, h, x, y => by
    rcases h with h | ⟨h1, h2⟩
    · exact Or.inl h
    · exact Or.inr ⟨h1, ltL_app (by simpa using hl) h2 x y⟩
theorem ltL_snoc : ∀ (l : List Nat) {a b : Nat}, a < b → ltL (l ++ [a]) (l ++ [b])
  | [], _, _, h => Or.inl h
  | _ :: l, _, _, h => Or.inr ⟨rfl, ltL_snoc l h⟩
theorem ltL_tr : ∀ {l m n : List Nat}, ltL l m → ltL m n → ltL l n
  | [], _, _, h, _ => h.elim
  | _ :: _, [], _, h, _ => h.elim
  | _ :: _, _ :: _, [], _, h => h.elim
  | a :: l, b :: m, c :: n, h, g => by
    rcases h with h | ⟨rfl, h⟩
    · rcases g with g | ⟨rfl, g⟩
      · exact Or.inl (by omega)
      · exact Or.inl h
    · rcases g with g | ⟨rfl, g⟩
      · exact Or.inl g
      · exact Or.inr ⟨rfl, ltL_tr h g⟩
theorem ltL_irr : ∀ {l : List Nat}, ¬ ltL l l
  | [], h => h
  | a :: l, h => by
    rcases h with h | ⟨_, h⟩
    · omega
    · exact ltL_irr h
def pLt (l m : List Nat) : Prop := l.length < m.length ∨ (l.length = m.length ∧ ltL l m)
theorem pLt.le {l m : List Nat} (h : pLt l m) : pLe l m := h.imp_right (fun q => ⟨q.1, lexL_lt q.2⟩)
theorem pLe.cases {l m : List Nat} (h : pLe l m) : l = m ∨ pLt l m := by
  rcases h with h | ⟨h1, h2⟩
  · exact Or.inr (Or.inl h)
  · rcases lexL_cases h1 h2 with e | e
    · exact Or.inl e
    · exact Or.inr (Or.inr ⟨h1, e⟩)
theorem pLe_rf (l : List Nat) : pLe l l := Or.inr ⟨rfl, lexL_rf l⟩
theorem pLt.tr {l m n : List Nat} (h : pLt l m) (g : pLt m n) : pLt l n := by
  rcases h with h | ⟨h1, h2⟩
  · rcases g with g | ⟨g1, g2⟩
    · exact Or.inl (by omega)
    · exact Or.inl (by omega)
  · rcases g with g | ⟨g1, g2⟩
    · exact Or.inl (by omega)
    · exact Or.inr ⟨by omega, ltL_tr h2 g2⟩
theorem pLt_irr {l : List Nat} : ¬ pLt l l := by
  rintro (h | ⟨_, h⟩)
  · omega
  · exact ltL_irr h
theorem pLe.tr {l m n : List Nat} (h : pLe l m) (g : pLe m n) : pLe l n := by
  rcases h.cases with rfl | h
  · exact g
  · rcases g.cases with rfl | g
    · exact h.le
    · exact (h.tr g).le
theorem pLt.snoc {l m : List Nat} (h : pLt l m) (a b : Nat) : pLt (l ++ [a]) (m ++ [b]) := by
  rcases h with h | ⟨h1, h2⟩
  · exact Or.inl (by simp; exact h)
  · exact Or.inr ⟨by simp; exact h1, ltL_app h1 h2 _ _⟩
theorem pLt_last (l : List Nat) {a b : Nat} (h : a < b) : pLt (l ++ [a]) (l ++ [b]) := Or.inr ⟨by simp, ltL_snoc l h⟩
theorem pLe.snoc {l m : List Nat} (h : pLe l m) (a : Nat) : pLe (l ++ [a]) (m ++ [a]) := by
  rcases h.cases with rfl | h
  · exact pLe_rf _
  · exact (h.snoc a a).le
theorem pLe_anti {l m : List Nat} (h : pLe l m) (g : pLe m l) : l = m := by
  rcases h.cases with e | h
  · exact e
  · rcases g.cases with e | g
    · exact e.symm
    · exact absurd (h.tr g) pLt_irr
theorem why_uniq {A : zA} {t : Nat → Nat} {q : Nat} {l m : List Nat} (h : IsWhy A t q l) (g : IsWhy A t q m) : l = m := pLe_anti (h.2.2 m g.1 g.2.1) (g.2.2 l h.1 h.2.1)
theorem chn_snoc {A : zA} {t : Nat → Nat} {r : Nat} {e : Int} : ∀ {b : Int} {l : List Nat}, Chn A t b (l ++ [r]) e ↔ Chn A t b l (rC (aR A r)) ∧ req A t r = true ∧ rT (aR A r) = e
  | b, [] => by
    simp only [List.nil_append, Chn]
    constructor
    · rintro ⟨h1, h2, h3⟩; exact ⟨h2.symm, h1, h3⟩
    · rintro ⟨h1, h2, h3⟩; exact ⟨h2, h1.symm, h3⟩
  | b, a :: l => by
    simp only [List.cons_append, Chn, chn_snoc (b := rT (aR A a)) (l := l)]
    constructor
    · rintro ⟨h1, h2, h3, h4⟩; exact ⟨⟨h1, h2, h3⟩, h4⟩
    · rintro ⟨⟨h1, h2, h3⟩, h4⟩; exact ⟨h1, h2, h3, h4⟩
theorem req_lt {A : zA} {t : Nat → Nat} {r : Nat} (h : req A t r = true) : r < aC A := by
  unfold req at h
  simp at h
  exact act_lt r h.1
theorem chn_end {A : zA} {t : Nat → Nat} (hA : AOK A) {b e : Int} {l : List Nat} (hl : l ≠ []) (h : Chn A t b l e) : 0 ≤ e ∧ e < 8 := by
  rcases List.eq_nil_or_concat l with q | ⟨L, r, hLr⟩
  · exact absurd q hl
  · rw [List.concat_eq_append] at hLr
    subst hLr
    rw [chn_snoc] at h
    have := hA.2.2.2.2.2.2 r (req_lt h.2.1)
    unfold RuA at this
    omega
/-! the search by breadth -/
def BI (h : zH) (o : Nat) (A : zA) (t : Nat → Nat) (m : Nat) (P : Nat → List Nat) (Q : Nat → Nat) : Prop := (∀ q, q < 8 → gI h (o + 14) q = ((P q).length : Int)) ∧ (∀ j, j < m → Q j < 8 ∧ gI h (o + 15) j = (Q j : Int) ∧ P (Q j) ≠ []) ∧ (∀ q, q < 8 → P q ≠ [] → ∃ j, j < m ∧ Q j = q) ∧ (∀ i j, i < j → j < m → pLt (P (Q i)) (P (Q j))) ∧ (∀ q, q < 8 → P q ≠ [] → ∃ r : Nat, r < 20 ∧ gI h (o + 12) q = (r : Int) ∧ ((gI h (o + 13) q = -1 ∧ P q = [r]) ∨ ∃ b : Nat, b < 8 ∧ gI h (o + 13) q = (b : Int) ∧ P b ≠ [] ∧ P q = P b ++ [r])) ∧ (∀ q, q < 8 → P q ≠ [] → Chn A t (-1) (P q) (q : Int)) ∧ cnt (fun q => decide (P q ≠ [])) 8 = m ∧ ∀ j, j < m → (P (Q j)).length ≤ j + 1
/-- all are below what comes from rule r on behind W -/
def BG (P : Nat → List Nat) (W : List Nat) (r : Nat) : Prop := ∀ q, q < 8 → P q ≠ [] → ∀ r', r ≤ r' → pLt (P q) (W ++ [r'])
/-- the rules below n behind package c are gone through -/
def BH (A : zA) (t : Nat → Nat) (P : Nat → List Nat) (c : Int) (W : List Nat) (n : Nat) : Prop := ∀ r, r < n → req A t r = true → rC (aR A r) = c → P (rTn A r) ≠ [] ∧ pLe (P (rTn A r)) (W ++ [r])
theorem BI.lt {h : zH} {o : Nat} {A : zA} {t : Nat → Nat} {m : Nat} {P : Nat → List Nat} {Q : Nat → Nat} (hB : BI h o A t m P Q) : m ≤ 8 ∧ ∀ q, q < 8 → P q = [] → m < 8 := by
  obtain ⟨-, -, -, -, -, -, hc, -⟩ := hB
  refine ⟨by have := cnt_le (fun q => decide (P q ≠ [])) 8; omega, fun q hq he => ?_⟩
  have h8 : cnt (fun _ => true) 8 = 8 := rfl
  have := cnt_lt (n := 8) (f := fun q => decide (P q ≠ [])) (g := fun _ => true) (fun _ _ _ => rfl) ⟨q, hq, rfl, by simp [he]⟩
  omega
theorem BI.len {h : zH} {o : Nat} {A : zA} {t : Nat → Nat} {m : Nat} {P : Nat → List Nat} {Q : Nat → Nat} (hB : BI h o A t m P Q) {q : Nat} (hq : q < 8) : (P q).length ≤ 8 := by
  have hm := hB.lt.1
  by_cases e : P q = []
  · rw [e]; simp
  · obtain ⟨j, h1, h2⟩ := hB.2.2.1 q hq e
    have := hB.2.2.2.2.2.2.2 j h1
    rw [h2] at this
    omega
theorem cnt_up {P : Nat → List Nat} {T : Nat} {w : List Nat} (hT : T < 8) (h0 : P T = []) (hw : w ≠ []) : ∀ n, n ≤ 8 → cnt (fun q => decide (up P T w q ≠ [])) n = cnt (fun q => decide (P q ≠ [])) n + if T < n then 1 else 0
  | 0, _ => by simp [cnt]
  | n + 1, hn => by
    have ih := cnt_up hT h0 hw n (by omega)
    simp only [cnt, ih]
    by_cases e : n = T
    · subst e
      simp [up_s, h0, hw]
    · have e2 := up_n P w e
      simp only [e2]
      by_cases h1 : T < n
      · simp [h1, show T < n + 1 by omega]; omega
      · simp [h1, show ¬ T < n + 1 by omega]
theorem BI.add {h h' : zH} {o : Nat} {A : zA} {t : Nat → Nat} {m : Nat} {P : Nat → List Nat} {Q : Nat → Nat} (hB : BI h o A t m P Q) {c : Int} {W : List Nat} {r T : Nat} (hT : T < 8) (h0 : P T = []) (hr : r < 20) (hg : BG P W r) (hw : (c = -1 ∧ W = []) ∨ ∃ b : Nat, b < 8 ∧ c = (b : Int) ∧ P b = W ∧ W ≠ []) (hc : Chn A t (-1) (W ++ [r]) (T : Int)) (e14 : ∀ q, q < 8 → gI h' (o + 14) q = if q = T then ((W ++ [r]).length : Int) else gI h (o + 14) q) (e12 : ∀ q, q < 8 → gI h' (o + 12) q = if q = T then (r : Int) else gI h (o + 12) q) (e13 : ∀ q, q < 8 → gI h' (o + 13) q = if q = T then c else gI h (o + 13) q) (e15 : ∀ j, j < 8 → gI h' (o + 15) j = if j = m then (T : Int) else gI h (o + 15) j) : BI h' o A t (m + 1) (up P T (W ++ [r])) (up Q m T) := by
  have hm8 := hB.lt.2 T hT h0
  obtain ⟨b1, b2, b3, b4, b5, b6, b7, b8⟩ := hB
  have hne : W ++ [r] ≠ [] := by simp
  have hold : ∀ q, P q ≠ [] → q ≠ T := fun q hq e => hq (by rw [e]; exact h0)
  have hQ : ∀ j, j < m → up Q m T j = Q j := fun j hj => up_n _ _ (by omega)
  refine ⟨fun q hq => ?_, fun j hj => ?_, fun q hq hp => ?_, fun i j hij hj => ?_, fun q hq hp => ?_, fun q hq hp => ?_, ?_, fun j hj => ?_⟩
  · rw [e14 q hq]
    by_cases e : q = T
    · rw [if_pos e, e, up_s]
    · rw [if_neg e, up_n _ _ e]; exact b1 q hq
  · by_cases e : j = m
    · rw [e, up_s, up_s, e15 m hm8, if_pos rfl]
      exact ⟨hT, rfl, hne⟩
    · rw [hQ j (by omega)]
      obtain ⟨q1, q2, q3⟩ := b2 j (by omega)
      rw [up_n _ _ (hold _ q3), e15 j (by omega), if_neg e]
      exact ⟨q1, q2, q3⟩
  · by_cases e : q = T
    · exact ⟨m, by omega, by rw [up_s, e]⟩
    · rw [up_n _ _ e] at hp
      obtain ⟨j, hj, hjq⟩ := b3 q hq hp
      exact ⟨j, by omega, by rw [hQ j hj]; exact hjq⟩
  · by_cases e : j = m
    · rw [e, up_s, up_s, hQ i (by omega)]
      obtain ⟨q1, q2, q3⟩ := b2 i (by omega)
      rw [up_n _ _ (hold _ q3)]
      exact hg _ q1 q3 r (Nat.le_refl _)
    · rw [hQ i (by omega), hQ j (by omega), up_n _ _ (hold _ (b2 i (by omega)).2.2), up_n _ _ (hold _ (b2 j (by omega)).2.2)]
      exact b4 i j hij (by omega)
  · by_cases e : q = T
    · subst e
      refine ⟨r, hr, by rw [e12 q hq, if_pos rfl], ?_⟩
      rw [e13 q hq, if_pos rfl, up_s]
      rcases hw with ⟨q1, q2⟩ | ⟨b, q1, q2, q3, q4⟩
      · exact Or.inl ⟨q1, by rw [q2]; rfl⟩
      · refine Or.inr ⟨b, q1, q2, ?_⟩
        rw [up_n _ _ (hold b (by rw [q3]; exact q4)), q3]
        exact ⟨q4, rfl⟩
    · rw [up_n _ _ e] at hp ⊢
      obtain ⟨r1, q1, q2, q3⟩ := b5 q hq hp
      refine ⟨r1, q1, by rw [e12 q hq, if_neg e]; exact q2, ?_⟩
      rw [e13 q hq, if_neg e]
      rcases q3 with q3 | ⟨b, g1, g2, g3, g4⟩
      · exact Or.inl q3
      · exact Or.inr ⟨b, g1, g2, by rw [up_n _ _ (hold b g3)]; exact g3, by rw [up_n _ _ (hold b g3)]; exact g4⟩
  · by_cases e : q = T
    · rw [e, up_s]; exact hc
    · rw [up_n _ _ e] at hp ⊢
      exact b6 q hq hp
  · rw [cnt_up hT h0 hne 8 (by omega), b7, if_pos hT]
  · by_cases e : j = m
    · rw [e, up_s, up_s, List.length_append]
      rcases hw with ⟨q1, q2⟩ | ⟨b, q1, q2, q3, q4⟩
      · rw [q2]; simp
      · obtain ⟨j', g1, g2⟩ := b3 b q1 (by rw [q3]; exact q4)
        have := b8 j' g1
        rw [g2, q3] at this
        simp
        omega
    · rw [hQ j (by omega), up_n _ _ (hold _ (b2 j (by omega)).2.2)]
      exact b8 j (by omega)
/-- all has been gone through: the sequences are the least ones -/
theorem BI.fin {h : zH} {o : Nat} {A : zA} {t : Nat → Nat} {m : Nat} {P : Nat → List Nat} {Q : Nat → Nat} (hA : AOK A) (hB : BI h o A t m P Q) (h0 : BH A t P (-1) [] 20) (hj : ∀ j, j < m → BH A t P (Q j : Int) (P (Q j)) 20) : BfOK h o A t := by
  have hlen := fun q (hq : q < 8) => hB.len hq
  obtain ⟨b1, b2, b3, b4, b5, b6, b7, b8⟩ := hB
  have h20 := hA.2.2.2.2.1
  have key : ∀ (n : Nat) (l : List Nat) (q : Nat), l.length = n → q < 8 → l ≠ [] → Chn A t (-1) l (q : Int) → P q ≠ [] ∧ pLe (P q) l := by
    intro n
    induction n with
    | zero =>
      intro l q hn hq hl hc
      exact absurd (List.length_eq_zero_iff.mp hn) hl
    | succ n ih =>
      intro l q hn hq hl hc
      rcases List.eq_nil_or_concat l with e | ⟨L, r, hLr⟩
      · exact absurd e hl
      · rw [List.concat_eq_append] at hLr
        subst hLr
        rw [chn_snoc] at hc
        obtain ⟨c1, c2, c3⟩ := hc
        have hrl := req_lt c2
        have eT : rTn A r = q := by unfold rTn; omega
        by_cases hL : L = []
        · subst hL
          have hc0 : rC (aR A r) = -1 := c1.symm
          have := h0 r (by omega) c2 hc0
          rw [eT] at this
          exact this
        · obtain ⟨e1, e2⟩ := chn_end hA hL c1
          obtain ⟨b, hb⟩ := Int.eq_ofNat_of_zero_le e1
          rw [hb] at c1
          obtain ⟨g1, g2⟩ := ih L b (by simpa using hn) (by omega) hL c1
          obtain ⟨j, hjm, hjb⟩ := b3 b (by omega) g1
          have := hj j hjm r (by omega) c2 (by rw [hb, hjb])
          rw [hjb, eT] at this
          exact ⟨this.1, this.2.tr (g2.snoc r)⟩
  refine ⟨P, fun q hq => ⟨b1 q hq, hlen q hq⟩, b5, fun q hq => ⟨fun he l hl hc => (key _ l q rfl hq hl hc).1 he, fun hp => ⟨hp, b6 q hq hp, fun l hl hc => (key _ l q rfl hq hl hc).2⟩⟩⟩
def OcR (h : zH) (o : Nat) (A : zA) (t : Nat → Nat) : Prop := ShO h o ∧ StOK h (o + 1) A ∧ oc3 h o A ∧ Enc (gL h o 4) t
theorem OcR.fr {h h' : zH} {o : Nat} {A : zA} {t : Nat → Nat} (f : Fr (fun a => o + 12 ≤ a ∧ a ≤ o + 15) h h') (hR : gR h' = gR h) (ho : o + 15 < 109) (hO : OcR h o A t) : OcR h' o A t := by
  obtain ⟨a1, a2, ⟨a3, a4, a5⟩, a6⟩ := hO
  exact ⟨a1.ofR f.K (by rw [hR]) (by rw [hR]), a2.fr f (fun q hq => by omega) (fun q q1 q2 => by omega), ⟨by rw [f.I (by omega)]; exact a3, a4.fr f (fun c q1 q2 => by omega), a5.fr f (by omega) (by omega)⟩, by rw [f.L (by omega)]; exact a6⟩
set_option maxRecDepth 4000 in
set_option maxHeartbeats 4000000 in
theorem sp_reachFrom (l : Launch) (G : zG) (h : zH) (o m : Nat) (c : Int) (A : zA) (t : Nat → Nat) (W : List Nat) (P : Nat → List Nat) (Q : Nat → Nat) (hO : OcR h o A t) (hA : AOK A) (ht : bestA A = some t) (hB : BI h o A t m P Q) (hg : BG P W 0) (hw : (c = -1 ∧ W = []) ∨ ∃ b : Nat, b < 8 ∧ c = (b : Int) ∧ P b = W ∧ W ≠ []) (ho : o + 15 < 109) (lv : Nat) (hlv : 3 ≤ lv) : z_Sp l G mtX1_reachFrom lv 0 0 [vR o, vI c, vI m] (h) (fun x h' => ∃ (m' : Nat) (P' : Nat → List Nat) (Q' : Nat → Nat), x = some (vI m') ∧ Fr (fun a => o + 12 ≤ a ∧ a ≤ o + 15) h h' ∧ gR h' = gR h ∧ BI h' o A t m' P' Q' ∧ BG P' W 20 ∧ BH A t P' c W 20 ∧ m ≤ m' ∧ (∀ q, P q ≠ [] → P' q = P q) ∧ ∀ j, j < m → Q' j = Q j) := by
  obtain ⟨hsh, hS, ⟨d1, d2, d3⟩, b2⟩ := hO
  obtain ⟨hs, h4⟩ := best_sol ht
  generalize hy : gL h o 4 = y at b2
  have h20 := hA.2.2.2.2.1
  obtain ⟨k0, k12, k13, k14, k15, r0, r1, r11, r12, r13, r14, hz⟩ := hsh
  refine x_enter [vR o, vI c, vI m, vJ, vJ, vJ, vJ, vJ] (by decide +kernel) (by omega) rfl (Nat.le_of_ble_eq_true rfl) ?_
  generalize hQ : (fun (x : Option zV) (h' : zH) => ∃ (m' : Nat) (P' : Nat → List Nat) (Q' : Nat → Nat), x = some (vI m') ∧ Fr (fun a => o + 12 ≤ a ∧ a ≤ o + 15) h h' ∧ gR h' = gR h ∧ BI h' o A t m' P' Q' ∧ BG P' W 20 ∧ BH A t P' c W 20 ∧ m ≤ m' ∧ (∀ q, P q ≠ [] → P' q = P q) ∧ ∀ j, j < m → Q' j = Q j) = QQ
  have hcR : -1 ≤ c ∧ c < 8 := by
    rcases hw with q | ⟨b, q1, q2, -⟩ <;> omega
  have hlo : ∀ (d i : Nat) (h1 : zH) (m1 : Nat) (P1 : Nat → List Nat) (Q1 : Nat → Nat), i + d = 20 → Fr (fun a => o + 12 ≤ a ∧ a ≤ o + 15) h h1 → gR h1 = gR h → BI h1 o A t m1 P1 Q1 → BG P1 W i → BH A t P1 c W i → m ≤ m1 → (∀ q, P q ≠ [] → P1 q = P q) → (∀ j, j < m → Q1 j = Q j) → z_X l G mtX1_reachFrom lv 0 0 (QQ) 0 0 (h1) 5 [vR o, vI c, vI m, vI m1, vI i, vJ, vJ, vJ] [] := by
    intro d
    induction d with
    | zero =>
      intro i h1 m1 P1 Q1 hi f1 hR1 hB1 hg1 hH1 hm1 hP1 hQ1
      obtain rfl : i = 20 := by omega
      refine z_run1 tsX1_reachFrom [] 20 ?_
      simp (maxSteps := 1000000) -implicitDefEqProofs +contextual (disch := omega) only [z_wp_t, z_wp_u, ↓pI_e, ↓pL_e, ↓pO_e, ↓pR_e, ↓p1_I, ↓p1_O, z_gl, z_st1, z_st2, z_nl_I, z_nl_O, z_nl_J, z_nl_L, if_true, if_false, ite_true, ite_false, true_and, and_true, List.mem_cons, List.not_mem_nil, or_false, false_or, or_self, List.length_cons, List.length_nil, InR_t, InL_t, z_ix_t, mI_s1, mI_s2, ↓brT, ↓brF, ↓brT', ↓brF', mL_sI, mR_sI, mK_sI, mS_sI, mI_sL, mL_s1, mL_s2, mR_sL, mK_sL, mS_sL, mI_sR, mL_sR, mR_s1, mR_s2, mK_sR, mS_sR, mA_s1, mA_s2, mL_sA, mR_sA, mK_sA, mS_sA, ix_n, ix_a, ix_m, ix_s, z_sw, z_stop, forall_const, true_implies, false_implies, imp_self, implies_true, not_true_eq_false, not_false_eq_true, ne_eq, eq_self, Option.some.injEq, reduceCtorEq, Nat.reduceAdd, Nat.reduceSub, Nat.reduceMul, Nat.reduceEqDiff, Nat.reduceLT, Nat.reduceLeDiff, Int.reduceAdd, Int.reduceMul, Int.reduceSub, Int.reduceNeg, Int.reduceToNat, Int.reduceLT, Int.reduceLE, Int.reduceEq, ↓reduceIte, List.reverse_cons, Option.toList, List.cons_append, List.nil_append, vI_inj, vL_inj, vO_inj, rI, rL, rO, rV, mI_sQ, mL_sQ, mK_sQ, mS_sQ, mQ_s1, mQ_s2, iL_and, iL_or, iL_xor, iL_shl, iL_ushr, iR_and, iR_or, iR_xor, iR_shl, iR_shr, iR_ushr, iR_cmp, yc0, tlX1_reachFrom, tkX1_reachFrom, o_aload, o_astore, o_getI, o_getL, o_getR, o_goto, o_iadd, o_iald, o_iast, o_ic, o_iceq, o_icge, o_ifeq, o_ifne, o_ifnull, o_iinc, o_iload, o_iret, o_istore]
      try simp +contextual (disch := omega) only [impF, impT, and_true, true_and, implies_true, not_false_eq_true, not_true_eq_false]
      rw [← hQ]
      exact ⟨m1, P1, Q1, rfl, f1, hR1, hB1, hg1, hH1, hm1, hP1, hQ1⟩
    | succ d ih =>
      intro i h1 m1 P1 Q1 hi f1 hR1 hB1 hg1 hH1 hm1 hP1 hQ1
      have k0' : (gK h1 o).1 = 1 := by rw [f1.K]; exact k0
      have r0' : gR h1 o 0 = some (o + 1) := by rw [hR1]; exact r0
      have r1' : gR h1 o 1 = some (o + 6) := by rw [hR1]; exact r1
      have r11' : gR h1 o 11 = some (o + 12) := by rw [hR1]; exact r11
      have r12' : gR h1 o 12 = some (o + 13) := by rw [hR1]; exact r12
      have r13' : gR h1 o 13 = some (o + 14) := by rw [hR1]; exact r13
      have r14' : gR h1 o 14 = some (o + 15) := by rw [hR1]; exact r14
      have k12' : gK h1 (o + 12) = (9, 8) := by rw [f1.K]; exact k12
      have k13' : gK h1 (o + 13) = (9, 8) := by rw [f1.K]; exact k13
      have k14' : gK h1 (o + 14) = (9, 8) := by rw [f1.K]; exact k14
      have k15' : gK h1 (o + 15) = (9, 8) := by rw [f1.K]; exact k15
      have hy' : gL h1 o 4 = y := by rw [f1.L (by omega)]; exact hy
      have d1' : gI h1 o 2 = actM A (aC A) := by rw [f1.I (by omega)]; exact d1
      have hz' : ShP h1 (o + 6) := hz.fr f1 (by omega)
      have d2' : PzD h1 (o + 6) A := d2.fr f1 (fun c q1 q2 => by omega)
      have hS' : StOK h1 (o + 1) A := hS.fr f1 (fun q hq => by omega) (fun q q1 q2 => by omega)
      have hm8 := hB1.lt.1
      -- the rule does not count
      have skip : ¬ (req A t i = true ∧ rC (aR A i) = c) → z_X l G mtX1_reachFrom lv 0 0 (QQ) 0 0 (h1) 170 [vR o, vI c, vI m, vI m1, vI i, vJ, vJ, vJ] [] := by
        intro hno
        have hnx := ih (i + 1) h1 m1 P1 Q1 (by omega) f1 hR1 hB1 (fun q hq hp r' hr' => hg1 q hq hp r' (by omega)) (fun r hr h1 h2 => by
          by_cases e : r = i
          · subst e; exact absurd ⟨h1, h2⟩ hno
          · exact hH1 r (by omega) h1 h2) hm1 hP1 hQ1
        refine z_run1 tsX1_reachFrom [5] 20 ?_
        simp (maxSteps := 1000000) -implicitDefEqProofs +contextual (disch := omega) only [z_wp_t, z_wp_u, ↓pI_e, ↓pL_e, ↓pO_e, ↓pR_e, ↓p1_I, ↓p1_O, z_gl, z_st1, z_st2, z_nl_I, z_nl_O, z_nl_J, z_nl_L, if_true, if_false, ite_true, ite_false, true_and, and_true, List.mem_cons, List.not_mem_nil, or_false, false_or, or_self, List.length_cons, List.length_nil, InR_t, InL_t, z_ix_t, mI_s1, mI_s2, ↓brT, ↓brF, ↓brT', ↓brF', mL_sI, mR_sI, mK_sI, mS_sI, mI_sL, mL_s1, mL_s2, mR_sL, mK_sL, mS_sL, mI_sR, mL_sR, mR_s1, mR_s2, mK_sR, mS_sR, mA_s1, mA_s2, mL_sA, mR_sA, mK_sA, mS_sA, ix_n, ix_a, ix_m, ix_s, z_sw, z_stop, forall_const, true_implies, false_implies, imp_self, implies_true, not_true_eq_false, not_false_eq_true, ne_eq, eq_self, Option.some.injEq, reduceCtorEq, Nat.reduceAdd, Nat.reduceSub, Nat.reduceMul, Nat.reduceEqDiff, Nat.reduceLT, Nat.reduceLeDiff, Int.reduceAdd, Int.reduceMul, Int.reduceSub, Int.reduceNeg, Int.reduceToNat, Int.reduceLT, Int.reduceLE, Int.reduceEq, ↓reduceIte, List.reverse_cons, Option.toList, List.cons_append, List.nil_append, vI_inj, vL_inj, vO_inj, rI, rL, rO, rV, mI_sQ, mL_sQ, mK_sQ, mS_sQ, mQ_s1, mQ_s2, iL_and, iL_or, iL_xor, iL_shl, iL_ushr, iR_and, iR_or, iR_xor, iR_shl, iR_shr, iR_ushr, iR_cmp, yc0, tlX1_reachFrom, tkX1_reachFrom, o_aload, o_astore, o_getI, o_getL, o_getR, o_goto, o_iadd, o_iald, o_iast, o_ic, o_iceq, o_icge, o_ifeq, o_ifne, o_ifnull, o_iinc, o_iload, o_iret, o_istore]
        try simp +contextual (disch := omega) only [impF, impT, and_true, true_and, implies_true, not_false_eq_true, not_true_eq_false]
        exact hnx
      refine z_run1 tsX1_reachFrom [] 20 ?_
      simp (maxSteps := 1000000) -implicitDefEqProofs +contextual (disch := omega) only [z_wp_t, z_wp_u, ↓pI_e, ↓pL_e, ↓pO_e, ↓pR_e, ↓p1_I, ↓p1_O, z_gl, z_st1, z_st2, z_nl_I, z_nl_O, z_nl_J, z_nl_L, if_true, if_false, ite_true, ite_false, true_and, and_true, List.mem_cons, List.not_mem_nil, or_false, false_or, or_self, List.length_cons, List.length_nil, InR_t, InL_t, z_ix_t, mI_s1, mI_s2, ↓brT, ↓brF, ↓brT', ↓brF', mL_sI, mR_sI, mK_sI, mS_sI, mI_sL, mL_s1, mL_s2, mR_sL, mK_sL, mS_sL, mI_sR, mL_sR, mR_s1, mR_s2, mK_sR, mS_sR, mA_s1, mA_s2, mL_sA, mR_sA, mK_sA, mS_sA, ix_n, ix_a, ix_m, ix_s, z_sw, z_stop, forall_const, true_implies, false_implies, imp_self, implies_true, not_true_eq_false, not_false_eq_true, ne_eq, eq_self, Option.some.injEq, reduceCtorEq, Nat.reduceAdd, Nat.reduceSub, Nat.reduceMul, Nat.reduceEqDiff, Nat.reduceLT, Nat.reduceLeDiff, Int.reduceAdd, Int.reduceMul, Int.reduceSub, Int.reduceNeg, Int.reduceToNat, Int.reduceLT, Int.reduceLE, Int.reduceEq, ↓reduceIte, List.reverse_cons, Option.toList, List.cons_append, List.nil_append, vI_inj, vL_inj, vO_inj, rI, rL, rO, rV, mI_sQ, mL_sQ, mK_sQ, mS_sQ, mQ_s1, mQ_s2, iL_and, iL_or, iL_xor, iL_shl, iL_ushr, iR_and, iR_or, iR_xor, iR_shl, iR_shr, iR_ushr, iR_cmp, yc0, tlX1_reachFrom, tkX1_reachFrom, o_aload, o_astore, o_getI, o_getL, o_getR, o_goto, o_iadd, o_iald, o_iast, o_ic, o_iceq, o_icge, o_ifeq, o_ifne, o_ifnull, o_iinc, o_iload, o_iret, o_istore, k0', r0']
      try simp +contextual (disch := omega) only [impF, impT, and_true, true_and, implies_true, not_false_eq_true, not_true_eq_false]
      refine x_callV (by decide +kernel) cv_X1_141 (sp_ruleAt l G h1 (o + 1) i A hS' hA (by unfold InR; omega) 1 (by omega)) hS'.1.1 (by omega) rfl (by omega) (by omega) rfl (Nat.le_of_ble_eq_true rfl) ?_
      rintro r h' ⟨rfl, hE⟩
      subst h'
      by_cases hic : i < aC A
      · obtain ⟨q, hq1, hq2⟩ := hS'.2.2.2.2.2.2 i hic
        have hra := hA.2.2.2.2.2.2 i hic
        obtain ⟨hT8, hC8⟩ := hra.lt
        unfold RuA at hra
        obtain ⟨q109, kq, f0, f1q, f2, f3, f4, f5, -, -⟩ := hq2
        rw [if_pos (by omega), Int.toNat_natCast, hq1]
        by_cases hb : rB (aR A i) = 0
        · by_cases hc : rC (aR A i) = c
          · have eT : rT (aR A i) = ((rTn A i : Nat) : Int) := by unfold rTn; omega
            rw [eT] at f4
            have hreq : req A t i = (actS A i && apB A i t) := by unfold req; rw [show decide (rB (aR A i) = 0) = true by simp [hb]]; rfl
            refine z_run1 tsX1_reachFrom [] 30 ?_
            simp (maxSteps := 1000000) -implicitDefEqProofs +contextual (disch := omega) only [z_wp_t, z_wp_u, ↓pI_e, ↓pL_e, ↓pO_e, ↓pR_e, ↓p1_I, ↓p1_O, z_gl, z_st1, z_st2, z_nl_I, z_nl_O, z_nl_J, z_nl_L, if_true, if_false, ite_true, ite_false, true_and, and_true, List.mem_cons, List.not_mem_nil, or_false, false_or, or_self, List.length_cons, List.length_nil, InR_t, InL_t, z_ix_t, mI_s1, mI_s2, ↓brT, ↓brF, ↓brT', ↓brF', mL_sI, mR_sI, mK_sI, mS_sI, mI_sL, mL_s1, mL_s2, mR_sL, mK_sL, mS_sL, mI_sR, mL_sR, mR_s1, mR_s2, mK_sR, mS_sR, mA_s1, mA_s2, mL_sA, mR_sA, mK_sA, mS_sA, ix_n, ix_a, ix_m, ix_s, z_sw, z_stop, forall_const, true_implies, false_implies, imp_self, implies_true, not_true_eq_false, not_false_eq_true, ne_eq, eq_self, Option.some.injEq, reduceCtorEq, Nat.reduceAdd, Nat.reduceSub, Nat.reduceMul, Nat.reduceEqDiff, Nat.reduceLT, Nat.reduceLeDiff, Int.reduceAdd, Int.reduceMul, Int.reduceSub, Int.reduceNeg, Int.reduceToNat, Int.reduceLT, Int.reduceLE, Int.reduceEq, ↓reduceIte, List.reverse_cons, Option.toList, List.cons_append, List.nil_append, vI_inj, vL_inj, vO_inj, rI, rL, rO, rV, mI_sQ, mL_sQ, mK_sQ, mS_sQ, mQ_s1, mQ_s2, iL_and, iL_or, iL_xor, iL_shl, iL_ushr, iR_and, iR_or, iR_xor, iR_shl, iR_shr, iR_ushr, iR_cmp, yc0, tlX1_reachFrom, tkX1_reachFrom, o_aload, o_astore, o_getI, o_getL, o_getR, o_goto, o_iadd, o_iald, o_iast, o_ic, o_iceq, o_icge, o_ifeq, o_ifne, o_ifnull, o_iinc, o_iload, o_iret, o_istore, kq, f3, f1q, f4, hb, hc]
            try simp +contextual (disch := omega) only [impF, impT, and_true, true_and, implies_true, not_false_eq_true, not_true_eq_false]
            refine x_callV (by decide +kernel) cv_X1_99 (sp_ocIsActive l G h1 o i A k0' d1' hA (by omega) 1 (by omega)) k0' (by omega) rfl (by omega) (by omega) rfl (Nat.le_of_ble_eq_true rfl) ?_
            rintro r h' ⟨rfl, hE⟩
            subst h'
            cases ha : actS A i
            · simp only [Bool.false_eq_true, if_false]
              refine z_run1 tsX1_reachFrom [170] 30 ?_
              simp (maxSteps := 1000000) -implicitDefEqProofs +contextual (disch := omega) only [z_wp_t, z_wp_u, ↓pI_e, ↓pL_e, ↓pO_e, ↓pR_e, ↓p1_I, ↓p1_O, z_gl, z_st1, z_st2, z_nl_I, z_nl_O, z_nl_J, z_nl_L, if_true, if_false, ite_true, ite_false, true_and, and_true, List.mem_cons, List.not_mem_nil, or_false, false_or, or_self, List.length_cons, List.length_nil, InR_t, InL_t, z_ix_t, mI_s1, mI_s2, ↓brT, ↓brF, ↓brT', ↓brF', mL_sI, mR_sI, mK_sI, mS_sI, mI_sL, mL_s1, mL_s2, mR_sL, mK_sL, mS_sL, mI_sR, mL_sR, mR_s1, mR_s2, mK_sR, mS_sR, mA_s1, mA_s2, mL_sA, mR_sA, mK_sA, mS_sA, ix_n, ix_a, ix_m, ix_s, z_sw, z_stop, forall_const, true_implies, false_implies, imp_self, implies_true, not_true_eq_false, not_false_eq_true, ne_eq, eq_self, Option.some.injEq, reduceCtorEq, Nat.reduceAdd, Nat.reduceSub, Nat.reduceMul, Nat.reduceEqDiff, Nat.reduceLT, Nat.reduceLeDiff, Int.reduceAdd, Int.reduceMul, Int.reduceSub, Int.reduceNeg, Int.reduceToNat, Int.reduceLT, Int.reduceLE, Int.reduceEq, ↓reduceIte, List.reverse_cons, Option.toList, List.cons_append, List.nil_append, vI_inj, vL_inj, vO_inj, rI, rL, rO, rV, mI_sQ, mL_sQ, mK_sQ, mS_sQ, mQ_s1, mQ_s2, iL_and, iL_or, iL_xor, iL_shl, iL_ushr, iR_and, iR_or, iR_xor, iR_shl, iR_shr, iR_ushr, iR_cmp, yc0, tlX1_reachFrom, tkX1_reachFrom, o_aload, o_astore, o_getI, o_getL, o_getR, o_goto, o_iadd, o_iald, o_iast, o_ic, o_iceq, o_icge, o_ifeq, o_ifne, o_ifnull, o_iinc, o_iload, o_iret, o_istore]
              try simp +contextual (disch := omega) only [impF, impT, and_true, true_and, implies_true, not_false_eq_true, not_true_eq_false]
              refine x_wk [vR o, vI c, vI m, vI m1, vI i, vJ, vJ, vJ] (by simp [z_wk]) ?_
              exact skip (fun q => by rw [hreq, ha] at q; cases q.1)
            · simp only [if_true]
              refine z_run1 tsX1_reachFrom [] 30 ?_
              simp (maxSteps := 1000000) -implicitDefEqProofs +contextual (disch := omega) only [z_wp_t, z_wp_u, ↓pI_e, ↓pL_e, ↓pO_e, ↓pR_e, ↓p1_I, ↓p1_O, z_gl, z_st1, z_st2, z_nl_I, z_nl_O, z_nl_J, z_nl_L, if_true, if_false, ite_true, ite_false, true_and, and_true, List.mem_cons, List.not_mem_nil, or_false, false_or, or_self, List.length_cons, List.length_nil, InR_t, InL_t, z_ix_t, mI_s1, mI_s2, ↓brT, ↓brF, ↓brT', ↓brF', mL_sI, mR_sI, mK_sI, mS_sI, mI_sL, mL_s1, mL_s2, mR_sL, mK_sL, mS_sL, mI_sR, mL_sR, mR_s1, mR_s2, mK_sR, mS_sR, mA_s1, mA_s2, mL_sA, mR_sA, mK_sA, mS_sA, ix_n, ix_a, ix_m, ix_s, z_sw, z_stop, forall_const, true_implies, false_implies, imp_self, implies_true, not_true_eq_false, not_false_eq_true, ne_eq, eq_self, Option.some.injEq, reduceCtorEq, Nat.reduceAdd, Nat.reduceSub, Nat.reduceMul, Nat.reduceEqDiff, Nat.reduceLT, Nat.reduceLeDiff, Int.reduceAdd, Int.reduceMul, Int.reduceSub, Int.reduceNeg, Int.reduceToNat, Int.reduceLT, Int.reduceLE, Int.reduceEq, ↓reduceIte, List.reverse_cons, Option.toList, List.cons_append, List.nil_append, vI_inj, vL_inj, vO_inj, rI, rL, rO, rV, mI_sQ, mL_sQ, mK_sQ, mS_sQ, mQ_s1, mQ_s2, iL_and, iL_or, iL_xor, iL_shl, iL_ushr, iR_and, iR_or, iR_xor, iR_shl, iR_shr, iR_ushr, iR_cmp, yc0, tlX1_reachFrom, tkX1_reachFrom, o_aload, o_astore, o_getI, o_getL, o_getR, o_goto, o_iadd, o_iald, o_iast, o_ic, o_iceq, o_icge, o_ifeq, o_ifne, o_ifnull, o_iinc, o_iload, o_iret, o_istore, k0', r1', hy']
              try simp +contextual (disch := omega) only [impF, impT, and_true, true_and, implies_true, not_false_eq_true, not_true_eq_false]
              refine x_callV (by decide +kernel) cv_X1_103 (sp_ruleApplies l G h1 (o + 6) i y t A hz' (d2'.1 i hic) (hA.2.2.2.2.2.2 i hic) (by omega) b2 h4 2 (by omega)) hz'.1 (by omega) rfl (by omega) (by omega) rfl (Nat.le_of_ble_eq_true rfl) ?_
              rintro r h' ⟨rfl, hE⟩
              subst h'
              cases hap : apB A i t
              · simp only [Bool.false_eq_true, if_false]
                refine z_run1 tsX1_reachFrom [170] 30 ?_
                simp (maxSteps := 1000000) -implicitDefEqProofs +contextual (disch := omega) only [z_wp_t, z_wp_u, ↓pI_e, ↓pL_e, ↓pO_e, ↓pR_e, ↓p1_I, ↓p1_O, z_gl, z_st1, z_st2, z_nl_I, z_nl_O, z_nl_J, z_nl_L, if_true, if_false, ite_true, ite_false, true_and, and_true, List.mem_cons, List.not_mem_nil, or_false, false_or, or_self, List.length_cons, List.length_nil, InR_t, InL_t, z_ix_t, mI_s1, mI_s2, ↓brT, ↓brF, ↓brT', ↓brF', mL_sI, mR_sI, mK_sI, mS_sI, mI_sL, mL_s1, mL_s2, mR_sL, mK_sL, mS_sL, mI_sR, mL_sR, mR_s1, mR_s2, mK_sR, mS_sR, mA_s1, mA_s2, mL_sA, mR_sA, mK_sA, mS_sA, ix_n, ix_a, ix_m, ix_s, z_sw, z_stop, forall_const, true_implies, false_implies, imp_self, implies_true, not_true_eq_false, not_false_eq_true, ne_eq, eq_self, Option.some.injEq, reduceCtorEq, Nat.reduceAdd, Nat.reduceSub, Nat.reduceMul, Nat.reduceEqDiff, Nat.reduceLT, Nat.reduceLeDiff, Int.reduceAdd, Int.reduceMul, Int.reduceSub, Int.reduceNeg, Int.reduceToNat, Int.reduceLT, Int.reduceLE, Int.reduceEq, ↓reduceIte, List.reverse_cons, Option.toList, List.cons_append, List.nil_append, vI_inj, vL_inj, vO_inj, rI, rL, rO, rV, mI_sQ, mL_sQ, mK_sQ, mS_sQ, mQ_s1, mQ_s2, iL_and, iL_or, iL_xor, iL_shl, iL_ushr, iR_and, iR_or, iR_xor, iR_shl, iR_shr, iR_ushr, iR_cmp, yc0, tlX1_reachFrom, tkX1_reachFrom, o_aload, o_astore, o_getI, o_getL, o_getR, o_goto, o_iadd, o_iald, o_iast, o_ic, o_iceq, o_icge, o_ifeq, o_ifne, o_ifnull, o_iinc, o_iload, o_iret, o_istore]
                try simp +contextual (disch := omega) only [impF, impT, and_true, true_and, implies_true, not_false_eq_true, not_true_eq_false]
                refine x_wk [vR o, vI c, vI m, vI m1, vI i, vJ, vJ, vJ] (by simp [z_wk]) ?_
                exact skip (fun q => by rw [hreq, hap, Bool.and_false] at q; cases q.1)
              · simp only [if_true]
                have hreq1 : req A t i = true := by rw [hreq, ha, hap]; rfl
                generalize hTT : rTn A i = T at *
                have e14 := hB1.1 T hT8
                refine z_run1 tsX1_reachFrom [] 30 ?_
                simp (maxSteps := 1000000) -implicitDefEqProofs +contextual (disch := omega) only [z_wp_t, z_wp_u, ↓pI_e, ↓pL_e, ↓pO_e, ↓pR_e, ↓p1_I, ↓p1_O, z_gl, z_st1, z_st2, z_nl_I, z_nl_O, z_nl_J, z_nl_L, if_true, if_false, ite_true, ite_false, true_and, and_true, List.mem_cons, List.not_mem_nil, or_false, false_or, or_self, List.length_cons, List.length_nil, InR_t, InL_t, z_ix_t, mI_s1, mI_s2, ↓brT, ↓brF, ↓brT', ↓brF', mL_sI, mR_sI, mK_sI, mS_sI, mI_sL, mL_s1, mL_s2, mR_sL, mK_sL, mS_sL, mI_sR, mL_sR, mR_s1, mR_s2, mK_sR, mS_sR, mA_s1, mA_s2, mL_sA, mR_sA, mK_sA, mS_sA, ix_n, ix_a, ix_m, ix_s, z_sw, z_stop, forall_const, true_implies, false_implies, imp_self, implies_true, not_true_eq_false, not_false_eq_true, ne_eq, eq_self, Option.some.injEq, reduceCtorEq, Nat.reduceAdd, Nat.reduceSub, Nat.reduceMul, Nat.reduceEqDiff, Nat.reduceLT, Nat.reduceLeDiff, Int.reduceAdd, Int.reduceMul, Int.reduceSub, Int.reduceNeg, Int.reduceToNat, Int.reduceLT, Int.reduceLE, Int.reduceEq, ↓reduceIte, List.reverse_cons, Option.toList, List.cons_append, List.nil_append, vI_inj, vL_inj, vO_inj, rI, rL, rO, rV, mI_sQ, mL_sQ, mK_sQ, mS_sQ, mQ_s1, mQ_s2, iL_and, iL_or, iL_xor, iL_shl, iL_ushr, iR_and, iR_or, iR_xor, iR_shl, iR_shr, iR_ushr, iR_cmp, yc0, tlX1_reachFrom, tkX1_reachFrom, o_aload, o_astore, o_getI, o_getL, o_getR, o_goto, o_iadd, o_iald, o_iast, o_ic, o_iceq, o_icge, o_ifeq, o_ifne, o_ifnull, o_iinc, o_iload, o_iret, o_istore]
                try simp +contextual (disch := omega) only [impF, impT, and_true, true_and, implies_true, not_false_eq_true, not_true_eq_false]
                refine x_callN (by decide +kernel) cv_X1_132 (sp_isPack1 l G _ (T : Int) (by omega) 1 (by omega)) (by omega) rfl (by omega) (by omega) rfl (Nat.le_of_ble_eq_true rfl) ?_
                rintro r h' ⟨rfl, hE⟩
                subst h'
                by_cases hP0 : P1 T = []
                · have hml := hB1.lt.2 T hT8 hP0
                  rw [hP0] at e14
                  have e14' : gI h1 (o + 14) T = 0 := e14
                  refine z_run1 tsX1_reachFrom [] 30 ?_
                  simp (maxSteps := 1000000) -implicitDefEqProofs +contextual (disch := omega) only [z_wp_t, z_wp_u, ↓pI_e, ↓pL_e, ↓pO_e, ↓pR_e, ↓p1_I, ↓p1_O, z_gl, z_st1, z_st2, z_nl_I, z_nl_O, z_nl_J, z_nl_L, if_true, if_false, ite_true, ite_false, true_and, and_true, List.mem_cons, List.not_mem_nil, or_false, false_or, or_self, List.length_cons, List.length_nil, InR_t, InL_t, z_ix_t, mI_s1, mI_s2, ↓brT, ↓brF, ↓brT', ↓brF', mL_sI, mR_sI, mK_sI, mS_sI, mI_sL, mL_s1, mL_s2, mR_sL, mK_sL, mS_sL, mI_sR, mL_sR, mR_s1, mR_s2, mK_sR, mS_sR, mA_s1, mA_s2, mL_sA, mR_sA, mK_sA, mS_sA, ix_n, ix_a, ix_m, ix_s, z_sw, z_stop, forall_const, true_implies, false_implies, imp_self, implies_true, not_true_eq_false, not_false_eq_true, ne_eq, eq_self, Option.some.injEq, reduceCtorEq, Nat.reduceAdd, Nat.reduceSub, Nat.reduceMul, Nat.reduceEqDiff, Nat.reduceLT, Nat.reduceLeDiff, Int.reduceAdd, Int.reduceMul, Int.reduceSub, Int.reduceNeg, Int.reduceToNat, Int.reduceLT, Int.reduceLE, Int.reduceEq, ↓reduceIte, List.reverse_cons, Option.toList, List.cons_append, List.nil_append, vI_inj, vL_inj, vO_inj, rI, rL, rO, rV, mI_sQ, mL_sQ, mK_sQ, mS_sQ, mQ_s1, mQ_s2, iL_and, iL_or, iL_xor, iL_shl, iL_ushr, iR_and, iR_or, iR_xor, iR_shl, iR_shr, iR_ushr, iR_cmp, yc0, tlX1_reachFrom, tkX1_reachFrom, o_aload, o_astore, o_getI, o_getL, o_getR, o_goto, o_iadd, o_iald, o_iast, o_ic, o_iceq, o_icge, o_ifeq, o_ifne, o_ifnull, o_iinc, o_iload, o_iret, o_istore, k0', r13', k14', e14']
                  try simp +contextual (disch := omega) only [impF, impT, and_true, true_and, implies_true, not_false_eq_true, not_true_eq_false]
                  have hw1 : (c = -1 ∧ W = []) ∨ ∃ b : Nat, b < 8 ∧ c = (b : Int) ∧ P1 b = W ∧ W ≠ [] := by
                    rcases hw with q | ⟨b, q1, q2, q3, q4⟩
                    · exact Or.inl q
                    · exact Or.inr ⟨b, q1, q2, by rw [hP1 b (by rw [q3]; exact q4)]; exact q3, q4⟩
                  have hch : Chn A t (-1) (W ++ [i]) (T : Int) := by
                    rw [chn_snoc]
                    refine ⟨?_, hreq1, eT⟩
                    rw [hc]
                    rcases hw1 with ⟨q1, q2⟩ | ⟨b, q1, q2, q3, q4⟩
                    · rw [q1, q2]; rfl
                    · have := hB1.2.2.2.2.2.1 b q1 (by rw [q3]; exact q4)
                      rw [q3] at this
                      rw [q2]
                      exact this
                  have add : ∀ (w : Int), w = ((W ++ [i]).length : Int) → z_X l G mtX1_reachFrom lv 0 0 (QQ) 0 0 (h1) 141 [vR o, vI c, vI m, vI m1, vI i, vJ, vI (T : Int), vJ] [vI w, vI (T : Int), vR (o + 14)] := by
                    intro w hw
                    have fr : Fr (fun a => o + 12 ≤ a ∧ a ≤ o + 15) h1 (sI (sI (sI (sI h1 (o + 14) T w) (o + 12) T (i : Int)) (o + 13) T c) (o + 15) m1 (T : Int)) := ((((Fr.sI (fun a => o + 12 ≤ a ∧ a ≤ o + 15) _ _ _ _ (by omega)).tr' (Fr.sI (fun a => o + 12 ≤ a ∧ a ≤ o + 15) _ _ _ _ (by omega)) (fun _ q => q) (fun _ q => q)).tr' (Fr.sI (fun a => o + 12 ≤ a ∧ a ≤ o + 15) _ _ _ _ (by omega)) (fun _ q => q) (fun _ q => q)).tr' (Fr.sI (fun a => o + 12 ≤ a ∧ a ≤ o + 15) _ _ _ _ (by omega)) (fun _ q => q) (fun _ q => q))
                    have hBI := hB1.add (h' := sI (sI (sI (sI h1 (o + 14) T w) (o + 12) T (i : Int)) (o + 13) T c) (o + 15) m1 (T : Int)) hT8 hP0 (by omega) hg1 hw1 hch (fun q hq => by
                      rw [mI_s2 _ _ (Or.inl (by omega)), mI_s2 _ _ (Or.inl (by omega)), mI_s2 _ _ (Or.inl (by omega)), mI_sI]
                      by_cases e : q = T
                      · rw [if_pos ⟨rfl, e⟩, if_pos e]; exact hw
                      · rw [if_neg (by omega), if_neg e]) (fun q hq => by
                      rw [mI_s2 _ _ (Or.inl (by omega)), mI_s2 _ _ (Or.inl (by omega)), mI_sI]
                      by_cases e : q = T
                      · rw [if_pos ⟨rfl, e⟩, if_pos e]
                      · rw [if_neg (by omega), if_neg e, mI_s2 _ _ (Or.inl (by omega))]) (fun q hq => by
                      rw [mI_s2 _ _ (Or.inl (by omega)), mI_sI]
                      by_cases e : q = T
                      · rw [if_pos ⟨rfl, e⟩, if_pos e]
                      · rw [if_neg (by omega), if_neg e, mI_s2 _ _ (Or.inl (by omega)), mI_s2 _ _ (Or.inl (by omega))]) (fun j hj => by
                      rw [mI_sI]
                      by_cases e : j = m1
                      · rw [if_pos ⟨rfl, e⟩, if_pos e]
                      · rw [if_neg (by omega), if_neg e, mI_s2 _ _ (Or.inl (by omega)), mI_s2 _ _ (Or.inl (by omega)), mI_s2 _ _ (Or.inl (by omega))])
                    have hnx := ih (i + 1) _ (m1 + 1) _ _ (by omega) (f1.tr' fr (fun _ q => q) (fun _ q => q)) (by rw [mR_sI, mR_sI, mR_sI, mR_sI]; exact hR1) hBI (fun q hq hp r' hr' => by
                      by_cases e : q = T
                      · rw [e, up_s]; exact pLt_last W (by omega)
                      · rw [up_n _ _ e] at hp ⊢; exact hg1 q hq hp r' (by omega)) (fun r hr g1 g2 => by
                      by_cases e : r = i
                      · subst e; rw [hTT, up_s]; exact ⟨by simp, pLe_rf _⟩
                      · obtain ⟨g3, g4⟩ := hH1 r (by omega) g1 g2
                        rw [up_n _ _ (fun e => g3 (by rw [e]; exact hP0))]
                        exact ⟨g3, g4⟩) (by omega) (fun q hq => by
                      have := hP1 q hq
                      rw [up_n _ _ (fun e => hq (by rw [← this, e]; exact hP0))]
                      exact this) (fun j hj => by rw [up_n _ _ (by omega)]; exact hQ1 j hj)
                    refine z_run1 tsX1_reachFrom [5] 40 ?_
                    simp (maxSteps := 1000000) -implicitDefEqProofs +contextual (disch := omega) only [z_wp_t, z_wp_u, ↓pI_e, ↓pL_e, ↓pO_e, ↓pR_e, ↓p1_I, ↓p1_O, z_gl, z_st1, z_st2, z_nl_I, z_nl_O, z_nl_J, z_nl_L, if_true, if_false, ite_true, ite_false, true_and, and_true, List.mem_cons, List.not_mem_nil, or_false, false_or, or_self, List.length_cons, List.length_nil, InR_t, InL_t, z_ix_t, mI_s1, mI_s2, ↓brT, ↓brF, ↓brT', ↓brF', mL_sI, mR_sI, mK_sI, mS_sI, mI_sL, mL_s1, mL_s2, mR_sL, mK_sL, mS_sL, mI_sR, mL_sR, mR_s1, mR_s2, mK_sR, mS_sR, mA_s1, mA_s2, mL_sA, mR_sA, mK_sA, mS_sA, ix_n, ix_a, ix_m, ix_s, z_sw, z_stop, forall_const, true_implies, false_implies, imp_self, implies_true, not_true_eq_false, not_false_eq_true, ne_eq, eq_self, Option.some.injEq, reduceCtorEq, Nat.reduceAdd, Nat.reduceSub, Nat.reduceMul, Nat.reduceEqDiff, Nat.reduceLT, Nat.reduceLeDiff, Int.reduceAdd, Int.reduceMul, Int.reduceSub, Int.reduceNeg, Int.reduceToNat, Int.reduceLT, Int.reduceLE, Int.reduceEq, ↓reduceIte, List.reverse_cons, Option.toList, List.cons_append, List.nil_append, vI_inj, vL_inj, vO_inj, rI, rL, rO, rV, mI_sQ, mL_sQ, mK_sQ, mS_sQ, mQ_s1, mQ_s2, iL_and, iL_or, iL_xor, iL_shl, iL_ushr, iR_and, iR_or, iR_xor, iR_shl, iR_shr, iR_ushr, iR_cmp, yc0, tlX1_reachFrom, tkX1_reachFrom, o_aload, o_astore, o_getI, o_getL, o_getR, o_goto, o_iadd, o_iald, o_iast, o_ic, o_iceq, o_icge, o_ifeq, o_ifne, o_ifnull, o_iinc, o_iload, o_iret, o_istore, k0', r11', r12', r14', k12', k13', k14', k15']
                    try simp +contextual (disch := omega) only [impF, impT, and_true, true_and, implies_true, not_false_eq_true, not_true_eq_false]
                    refine x_wk [vR o, vI c, vI m, vI ((m1 + 1 : Nat) : Int), vI ((i + 1 : Nat) : Int), vJ, vJ, vJ] (by simp [z_wk]) ?_
                    exact hnx
                  rcases hw1 with ⟨q1, q2⟩ | ⟨b, q1, q2, q3, q4⟩
                  · refine x_callN (by decide +kernel) cv_X1_132 (sp_isPack0 l G _ c (by omega) (by unfold InR; omega) 1 (by omega)) (by omega) rfl (by omega) (by omega) rfl (Nat.le_of_ble_eq_true rfl) ?_
                    rintro r h' ⟨rfl, hE⟩
                    subst h'
                    have hnx := add 1 (by rw [q2]; rfl)
                    refine z_run1 tsX1_reachFrom [141] 40 ?_
                    simp (maxSteps := 1000000) -implicitDefEqProofs +contextual (disch := omega) only [z_wp_t, z_wp_u, ↓pI_e, ↓pL_e, ↓pO_e, ↓pR_e, ↓p1_I, ↓p1_O, z_gl, z_st1, z_st2, z_nl_I, z_nl_O, z_nl_J, z_nl_L, if_true, if_false, ite_true, ite_false, true_and, and_true, List.mem_cons, List.not_mem_nil, or_false, false_or, or_self, List.length_cons, List.length_nil, InR_t, InL_t, z_ix_t, mI_s1, mI_s2, ↓brT, ↓brF, ↓brT', ↓brF', mL_sI, mR_sI, mK_sI, mS_sI, mI_sL, mL_s1, mL_s2, mR_sL, mK_sL, mS_sL, mI_sR, mL_sR, mR_s1, mR_s2, mK_sR, mS_sR, mA_s1, mA_s2, mL_sA, mR_sA, mK_sA, mS_sA, ix_n, ix_a, ix_m, ix_s, z_sw, z_stop, forall_const, true_implies, false_implies, imp_self, implies_true, not_true_eq_false, not_false_eq_true, ne_eq, eq_self, Option.some.injEq, reduceCtorEq, Nat.reduceAdd, Nat.reduceSub, Nat.reduceMul, Nat.reduceEqDiff, Nat.reduceLT, Nat.reduceLeDiff, Int.reduceAdd, Int.reduceMul, Int.reduceSub, Int.reduceNeg, Int.reduceToNat, Int.reduceLT, Int.reduceLE, Int.reduceEq, ↓reduceIte, List.reverse_cons, Option.toList, List.cons_append, List.nil_append, vI_inj, vL_inj, vO_inj, rI, rL, rO, rV, mI_sQ, mL_sQ, mK_sQ, mS_sQ, mQ_s1, mQ_s2, iL_and, iL_or, iL_xor, iL_shl, iL_ushr, iR_and, iR_or, iR_xor, iR_shl, iR_shr, iR_ushr, iR_cmp, yc0, tlX1_reachFrom, tkX1_reachFrom, o_aload, o_astore, o_getI, o_getL, o_getR, o_goto, o_iadd, o_iald, o_iast, o_ic, o_iceq, o_icge, o_ifeq, o_ifne, o_ifnull, o_iinc, o_iload, o_iret, o_istore]
                    try simp +contextual (disch := omega) only [impF, impT, and_true, true_and, implies_true, not_false_eq_true, not_true_eq_false]
                    refine x_wk [vR o, vI c, vI m, vI m1, vI i, vJ, vI (T : Int), vJ] (by simp [z_wk]) ?_
                    exact hnx
                  · rw [q2]
                    refine x_callN (by decide +kernel) cv_X1_132 (sp_isPack1 l G _ (b : Int) (by omega) 1 (by omega)) (by omega) rfl (by omega) (by omega) rfl (Nat.le_of_ble_eq_true rfl) ?_
                    rintro r h' ⟨rfl, hE⟩
                    subst h'
                    have hb14 := hB1.1 b q1
                    rw [q3] at hb14
                    have hnx := add ((W.length : Int) + 1) (by rw [List.length_append]; rfl)
                    rw [q2] at hnx
                    refine z_run1 tsX1_reachFrom [141] 40 ?_
                    simp (maxSteps := 1000000) -implicitDefEqProofs +contextual (disch := omega) only [z_wp_t, z_wp_u, ↓pI_e, ↓pL_e, ↓pO_e, ↓pR_e, ↓p1_I, ↓p1_O, z_gl, z_st1, z_st2, z_nl_I, z_nl_O, z_nl_J, z_nl_L, if_true, if_false, ite_true, ite_false, true_and, and_true, List.mem_cons, List.not_mem_nil, or_false, false_or, or_self, List.length_cons, List.length_nil, InR_t, InL_t, z_ix_t, mI_s1, mI_s2, ↓brT, ↓brF, ↓brT', ↓brF', mL_sI, mR_sI, mK_sI, mS_sI, mI_sL, mL_s1, mL_s2, mR_sL, mK_sL, mS_sL, mI_sR, mL_sR, mR_s1, mR_s2, mK_sR, mS_sR, mA_s1, mA_s2, mL_sA, mR_sA, mK_sA, mS_sA, ix_n, ix_a, ix_m, ix_s, z_sw, z_stop, forall_const, true_implies, false_implies, imp_self, implies_true, not_true_eq_false, not_false_eq_true, ne_eq, eq_self, Option.some.injEq, reduceCtorEq, Nat.reduceAdd, Nat.reduceSub, Nat.reduceMul, Nat.reduceEqDiff, Nat.reduceLT, Nat.reduceLeDiff, Int.reduceAdd, Int.reduceMul, Int.reduceSub, Int.reduceNeg, Int.reduceToNat, Int.reduceLT, Int.reduceLE, Int.reduceEq, ↓reduceIte, List.reverse_cons, Option.toList, List.cons_append, List.nil_append, vI_inj, vL_inj, vO_inj, rI, rL, rO, rV, mI_sQ, mL_sQ, mK_sQ, mS_sQ, mQ_s1, mQ_s2, iL_and, iL_or, iL_xor, iL_shl, iL_ushr, iR_and, iR_or, iR_xor, iR_shl, iR_shr, iR_ushr, iR_cmp, yc0, tlX1_reachFrom, tkX1_reachFrom, o_aload, o_astore, o_getI, o_getL, o_getR, o_goto, o_iadd, o_iald, o_iast, o_ic, o_iceq, o_icge, o_ifeq, o_ifne, o_ifnull, o_iinc, o_iload, o_iret, o_istore, k0', r13', k14', hb14]
                    try simp +contextual (disch := omega) only [impF, impT, and_true, true_and, implies_true, not_false_eq_true, not_true_eq_false]
                    refine x_wk [vR o, vI (b : Int), vI m, vI m1, vI i, vJ, vI (T : Int), vJ] (by simp [z_wk]) ?_
                    exact hnx
                · have hlen : (P1 T).length ≠ 0 := fun q => hP0 (List.length_eq_zero_iff.mp q)
                  have hl8 := hB1.len hT8
                  have hnx := ih (i + 1) h1 m1 P1 Q1 (by omega) f1 hR1 hB1 (fun q hq hp r' hr' => hg1 q hq hp r' (by omega)) (fun r hr h1 h2 => by
                    by_cases e : r = i
                    · subst e; rw [hTT]; exact ⟨hP0, (hg1 T hT8 hP0 r (Nat.le_refl _)).le⟩
                    · exact hH1 r (by omega) h1 h2) hm1 hP1 hQ1
                  refine z_run1 tsX1_reachFrom [5] 30 ?_
                  simp (maxSteps := 1000000) -implicitDefEqProofs +contextual (disch := omega) only [z_wp_t, z_wp_u, ↓pI_e, ↓pL_e, ↓pO_e, ↓pR_e, ↓p1_I, ↓p1_O, z_gl, z_st1, z_st2, z_nl_I, z_nl_O, z_nl_J, z_nl_L, if_true, if_false, ite_true, ite_false, true_and, and_true, List.mem_cons, List.not_mem_nil, or_false, false_or, or_self, List.length_cons, List.length_nil, InR_t, InL_t, z_ix_t, mI_s1, mI_s2, ↓brT, ↓brF, ↓brT', ↓brF', mL_sI, mR_sI, mK_sI, mS_sI, mI_sL, mL_s1, mL_s2, mR_sL, mK_sL, mS_sL, mI_sR, mL_sR, mR_s1, mR_s2, mK_sR, mS_sR, mA_s1, mA_s2, mL_sA, mR_sA, mK_sA, mS_sA, ix_n, ix_a, ix_m, ix_s, z_sw, z_stop, forall_const, true_implies, false_implies, imp_self, implies_true, not_true_eq_false, not_false_eq_true, ne_eq, eq_self, Option.some.injEq, reduceCtorEq, Nat.reduceAdd, Nat.reduceSub, Nat.reduceMul, Nat.reduceEqDiff, Nat.reduceLT, Nat.reduceLeDiff, Int.reduceAdd, Int.reduceMul, Int.reduceSub, Int.reduceNeg, Int.reduceToNat, Int.reduceLT, Int.reduceLE, Int.reduceEq, ↓reduceIte, List.reverse_cons, Option.toList, List.cons_append, List.nil_append, vI_inj, vL_inj, vO_inj, rI, rL, rO, rV, mI_sQ, mL_sQ, mK_sQ, mS_sQ, mQ_s1, mQ_s2, iL_and, iL_or, iL_xor, iL_shl, iL_ushr, iR_and, iR_or, iR_xor, iR_shl, iR_shr, iR_ushr, iR_cmp, yc0, tlX1_reachFrom, tkX1_reachFrom, o_aload, o_astore, o_getI, o_getL, o_getR, o_goto, o_iadd, o_iald, o_iast, o_ic, o_iceq, o_icge, o_ifeq, o_ifne, o_ifnull, o_iinc, o_iload, o_iret, o_istore, k0', r13', k14', e14]
                  try simp +contextual (disch := omega) only [impF, impT, and_true, true_and, implies_true, not_false_eq_true, not_true_eq_false]
                  refine x_wk [vR o, vI c, vI m, vI m1, vI ((i + 1 : Nat) : Int), vJ, vJ, vJ] (by simp [z_wk]) ?_
                  exact hnx
          · refine z_run1 tsX1_reachFrom [170] 30 ?_
            simp (maxSteps := 1000000) -implicitDefEqProofs +contextual (disch := omega) only [z_wp_t, z_wp_u, ↓pI_e, ↓pL_e, ↓pO_e, ↓pR_e, ↓p1_I, ↓p1_O, z_gl, z_st1, z_st2, z_nl_I, z_nl_O, z_nl_J, z_nl_L, if_true, if_false, ite_true, ite_false, true_and, and_true, List.mem_cons, List.not_mem_nil, or_false, false_or, or_self, List.length_cons, List.length_nil, InR_t, InL_t, z_ix_t, mI_s1, mI_s2, ↓brT, ↓brF, ↓brT', ↓brF', mL_sI, mR_sI, mK_sI, mS_sI, mI_sL, mL_s1, mL_s2, mR_sL, mK_sL, mS_sL, mI_sR, mL_sR, mR_s1, mR_s2, mK_sR, mS_sR, mA_s1, mA_s2, mL_sA, mR_sA, mK_sA, mS_sA, ix_n, ix_a, ix_m, ix_s, z_sw, z_stop, forall_const, true_implies, false_implies, imp_self, implies_true, not_true_eq_false, not_false_eq_true, ne_eq, eq_self, Option.some.injEq, reduceCtorEq, Nat.reduceAdd, Nat.reduceSub, Nat.reduceMul, Nat.reduceEqDiff, Nat.reduceLT, Nat.reduceLeDiff, Int.reduceAdd, Int.reduceMul, Int.reduceSub, Int.reduceNeg, Int.reduceToNat, Int.reduceLT, Int.reduceLE, Int.reduceEq, ↓reduceIte, List.reverse_cons, Option.toList, List.cons_append, List.nil_append, vI_inj, vL_inj, vO_inj, rI, rL, rO, rV, mI_sQ, mL_sQ, mK_sQ, mS_sQ, mQ_s1, mQ_s2, iL_and, iL_or, iL_xor, iL_shl, iL_ushr, iR_and, iR_or, iR_xor, iR_shl, iR_shr, iR_ushr, iR_cmp, yc0, tlX1_reachFrom, tkX1_reachFrom, o_aload, o_astore, o_getI, o_getL, o_getR, o_goto, o_iadd, o_iald, o_iast, o_ic, o_iceq, o_icge, o_ifeq, o_ifne, o_ifnull, o_iinc, o_iload, o_iret, o_istore, kq, f3, f1q, hb]
            try simp +contextual (disch := omega) only [impF, impT, and_true, true_and, implies_true, not_false_eq_true, not_true_eq_false]
            refine x_wk [vR o, vI c, vI m, vI m1, vI i, vJ, vJ, vJ] (by simp [z_wk]) ?_
            exact skip (fun q => hc q.2)
        · refine z_run1 tsX1_reachFrom [170] 30 ?_
          simp (maxSteps := 1000000) -implicitDefEqProofs +contextual (disch := omega) only [z_wp_t, z_wp_u, ↓pI_e, ↓pL_e, ↓pO_e, ↓pR_e, ↓p1_I, ↓p1_O, z_gl, z_st1, z_st2, z_nl_I, z_nl_O, z_nl_J, z_nl_L, if_true, if_false, ite_true, ite_false, true_and, and_true, List.mem_cons, List.not_mem_nil, or_false, false_or, or_self, List.length_cons, List.length_nil, InR_t, InL_t, z_ix_t, mI_s1, mI_s2, ↓brT, ↓brF, ↓brT', ↓brF', mL_sI, mR_sI, mK_sI, mS_sI, mI_sL, mL_s1, mL_s2, mR_sL, mK_sL, mS_sL, mI_sR, mL_sR, mR_s1, mR_s2, mK_sR, mS_sR, mA_s1, mA_s2, mL_sA, mR_sA, mK_sA, mS_sA, ix_n, ix_a, ix_m, ix_s, z_sw, z_stop, forall_const, true_implies, false_implies, imp_self, implies_true, not_true_eq_false, not_false_eq_true, ne_eq, eq_self, Option.some.injEq, reduceCtorEq, Nat.reduceAdd, Nat.reduceSub, Nat.reduceMul, Nat.reduceEqDiff, Nat.reduceLT, Nat.reduceLeDiff, Int.reduceAdd, Int.reduceMul, Int.reduceSub, Int.reduceNeg, Int.reduceToNat, Int.reduceLT, Int.reduceLE, Int.reduceEq, ↓reduceIte, List.reverse_cons, Option.toList, List.cons_append, List.nil_append, vI_inj, vL_inj, vO_inj, rI, rL, rO, rV, mI_sQ, mL_sQ, mK_sQ, mS_sQ, mQ_s1, mQ_s2, iL_and, iL_or, iL_xor, iL_shl, iL_ushr, iR_and, iR_or, iR_xor, iR_shl, iR_shr, iR_ushr, iR_cmp, yc0, tlX1_reachFrom, tkX1_reachFrom, o_aload, o_astore, o_getI, o_getL, o_getR, o_goto, o_iadd, o_iald, o_iast, o_ic, o_iceq, o_icge, o_ifeq, o_ifne, o_ifnull, o_iinc, o_iload, o_iret, o_istore, kq, f3, hb]
          try simp +contextual (disch := omega) only [impF, impT, and_true, true_and, implies_true, not_false_eq_true, not_true_eq_false]
          refine x_wk [vR o, vI c, vI m, vI m1, vI i, vJ, vJ, vJ] (by simp [z_wk]) ?_
          exact skip (fun q => by have := q.1; unfold req at this; simp [hb] at this)
      · rw [if_neg (by omega)]
        refine z_run1 tsX1_reachFrom [170] 20 ?_
        simp (maxSteps := 1000000) -implicitDefEqProofs +contextual (disch := omega) only [z_wp_t, z_wp_u, ↓pI_e, ↓pL_e, ↓pO_e, ↓pR_e, ↓p1_I, ↓p1_O, z_gl, z_st1, z_st2, z_nl_I, z_nl_O, z_nl_J, z_nl_L, if_true, if_false, ite_true, ite_false, true_and, and_true, List.mem_cons, List.not_mem_nil, or_false, false_or, or_self, List.length_cons, List.length_nil, InR_t, InL_t, z_ix_t, mI_s1, mI_s2, ↓brT, ↓brF, ↓brT', ↓brF', mL_sI, mR_sI, mK_sI, mS_sI, mI_sL, mL_s1, mL_s2, mR_sL, mK_sL, mS_sL, mI_sR, mL_sR, mR_s1, mR_s2, mK_sR, mS_sR, mA_s1, mA_s2, mL_sA, mR_sA, mK_sA, mS_sA, ix_n, ix_a, ix_m, ix_s, z_sw, z_stop, forall_const, true_implies, false_implies, imp_self, implies_true, not_true_eq_false, not_false_eq_true, ne_eq, eq_self, Option.some.injEq, reduceCtorEq, Nat.reduceAdd, Nat.reduceSub, Nat.reduceMul, Nat.reduceEqDiff, Nat.reduceLT, Nat.reduceLeDiff, Int.reduceAdd, Int.reduceMul, Int.reduceSub, Int.reduceNeg, Int.reduceToNat, Int.reduceLT, Int.reduceLE, Int.reduceEq, ↓reduceIte, List.reverse_cons, Option.toList, List.cons_append, List.nil_append, vI_inj, vL_inj, vO_inj, rI, rL, rO, rV, mI_sQ, mL_sQ, mK_sQ, mS_sQ, mQ_s1, mQ_s2, iL_and, iL_or, iL_xor, iL_shl, iL_ushr, iR_and, iR_or, iR_xor, iR_shl, iR_shr, iR_ushr, iR_cmp, yc0, tlX1_reachFrom, tkX1_reachFrom, o_aload, o_astore, o_getI, o_getL, o_getR, o_goto, o_iadd, o_iald, o_iast, o_ic, o_iceq, o_icge, o_ifeq, o_ifne, o_ifnull, o_iinc, o_iload, o_iret, o_istore]
        try simp +contextual (disch := omega) only [impF, impT, and_true, true_and, implies_true, not_false_eq_true, not_true_eq_false]
        refine x_wk [vR o, vI c, vI m, vI m1, vI i, vJ, vJ, vJ] (by simp [z_wk]) ?_
        exact skip (fun q => hic (req_lt q.1))
  have h0 := hlo 20 0 h m P Q (by omega) Fr.rf rfl hB hg (fun r hr => by omega) (Nat.le_refl _) (fun _ _ => rfl) (fun _ _ => rfl)
  have hm8 := hB.lt.1
  refine z_run1 tsX1_reachFrom [5] 20 ?_
  simp (maxSteps := 1000000) -implicitDefEqProofs +contextual (disch := omega) only [z_wp_t, z_wp_u, ↓pI_e, ↓pL_e, ↓pO_e, ↓pR_e, ↓p1_I, ↓p1_O, z_gl, z_st1, z_st2, z_nl_I, z_nl_O, z_nl_J, z_nl_L, if_true, if_false, ite_true, ite_false, true_and, and_true, List.mem_cons, List.not_mem_nil, or_false, false_or, or_self, List.length_cons, List.length_nil, InR_t, InL_t, z_ix_t, mI_s1, mI_s2, ↓brT, ↓brF, ↓brT', ↓brF', mL_sI, mR_sI, mK_sI, mS_sI, mI_sL, mL_s1, mL_s2, mR_sL, mK_sL, mS_sL, mI_sR, mL_sR, mR_s1, mR_s2, mK_sR, mS_sR, mA_s1, mA_s2, mL_sA, mR_sA, mK_sA, mS_sA, ix_n, ix_a, ix_m, ix_s, z_sw, z_stop, forall_const, true_implies, false_implies, imp_self, implies_true, not_true_eq_false, not_false_eq_true, ne_eq, eq_self, Option.some.injEq, reduceCtorEq, Nat.reduceAdd, Nat.reduceSub, Nat.reduceMul, Nat.reduceEqDiff, Nat.reduceLT, Nat.reduceLeDiff, Int.reduceAdd, Int.reduceMul, Int.reduceSub, Int.reduceNeg, Int.reduceToNat, Int.reduceLT, Int.reduceLE, Int.reduceEq, ↓reduceIte, List.reverse_cons, Option.toList, List.cons_append, List.nil_append, vI_inj, vL_inj, vO_inj, rI, rL, rO, rV, mI_sQ, mL_sQ, mK_sQ, mS_sQ, mQ_s1, mQ_s2, iL_and, iL_or, iL_xor, iL_shl, iL_ushr, iR_and, iR_or, iR_xor, iR_shl, iR_shr, iR_ushr, iR_cmp, yc0, tlX1_reachFrom, tkX1_reachFrom, o_aload, o_astore, o_getI, o_getL, o_getR, o_goto, o_iadd, o_iald, o_iast, o_ic, o_iceq, o_icge, o_ifeq, o_ifne, o_ifnull, o_iinc, o_iload, o_iret, o_istore]
  try simp +contextual (disch := omega) only [impF, impT, and_true, true_and, implies_true, not_false_eq_true, not_true_eq_false]
  exact h0
