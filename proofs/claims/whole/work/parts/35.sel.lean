/-! selections: 0 for absent, k for the k-th version; all of them in their order; solutions; cost; the best -/
def enV {α : Type} (f : Nat → List α) : Nat → List α
  | 0 => []
  | k + 1 => f k ++ enV f k
def enum : Nat → (Nat → Nat) → List (Nat → Nat)
  | 0, s => [s]
  | d + 1, s => enV (fun v => enum d (up s (7 - d) v)) 5
theorem enV_mem {α : Type} {f : Nat → List α} {x : α} : ∀ {k : Nat}, x ∈ enV f k ↔ ∃ v, v < k ∧ x ∈ f v
  | 0 => by simp [enV]
  | k + 1 => by
    simp only [enV, List.mem_append, enV_mem (k := k)]
    constructor
    · rintro (h | ⟨v, h1, h2⟩)
      · exact ⟨k, by omega, h⟩
      · exact ⟨v, by omega, h2⟩
    · rintro ⟨v, h1, h2⟩
      by_cases e : v = k
      · subst e; exact Or.inl h2
      · exact Or.inr ⟨v, by omega, h2⟩
theorem enV_filter {α : Type} {f : Nat → List α} {P : α → Bool} : ∀ {k : Nat}, (enV f k).filter P = enV (fun v => (f v).filter P) k
  | 0 => rfl
  | k + 1 => by simp only [enV, List.filter_append, enV_filter (k := k)]
theorem enum_s (d : Nat) (s : Nat → Nat) : enum (d + 1) s = enV (fun v => enum d (up s (7 - d) v)) 5 := rfl
theorem enum_mem : ∀ (d : Nat) (s t : Nat → Nat), d ≤ 8 → (t ∈ enum d s ↔ (∀ p, p < 8 - d ∨ 8 ≤ p → t p = s p) ∧ ∀ p, 8 - d ≤ p → p < 8 → t p ≤ 4)
  | 0, s, t, _ => by
    simp only [enum, List.mem_singleton]
    constructor
    · rintro rfl; exact ⟨fun _ _ => rfl, fun p h1 h2 => by omega⟩
    · rintro ⟨h1, -⟩; funext p; exact h1 p (by omega)
  | d + 1, s, t, hd => by
    rw [enum_s, enV_mem]
    constructor
    · rintro ⟨v, hv, h⟩
      rw [enum_mem d _ t (by omega)] at h
      obtain ⟨h1, h2⟩ := h
      refine ⟨fun p hp => ?_, fun p h3 h4 => ?_⟩
      · rw [h1 p (by omega), up_n _ _ (by omega)]
      · by_cases e : p = 7 - d
        · rw [h1 p (by omega), e, up_s]; omega
        · exact h2 p (by omega) h4
    · rintro ⟨h1, h2⟩
      have h5 := h2 (7 - d) (by omega) (by omega)
      refine ⟨t (7 - d), by omega, ?_⟩
      rw [enum_mem d _ t (by omega)]
      refine ⟨fun p hp => ?_, fun p h3 h4 => h2 p (by omega) h4⟩
      by_cases e : p = 7 - d
      · rw [e, up_s]
      · rw [up_n _ _ e]; exact h1 p (by omega)
def s0 : Nat → Nat := fun _ => 0
theorem enum_all {t : Nat → Nat} : t ∈ enum 8 s0 ↔ (∀ p, p < 8 → t p ≤ 4) ∧ ∀ p, 8 ≤ p → t p = 0 := by
  rw [enum_mem 8 s0 t (by omega)]
  constructor
  · rintro ⟨h1, h2⟩; exact ⟨fun p hp => h2 p (by omega) hp, fun p hp => h1 p (Or.inr hp)⟩
  · rintro ⟨h1, h2⟩; exact ⟨fun p hp => by rw [h2 p (by omega)]; rfl, fun p _ hp => h1 p hp⟩
/-- nothing in a part of the tree: nothing found there -/
theorem filt_none {α : Type} {l : List α} {P : α → Bool} (h : ∀ x, x ∈ l → P x = false) : l.filter P = [] := by
  rw [List.filter_eq_nil_iff]
  intro x hx
  rw [h x hx]
  decide
theorem filt_congr {α : Type} {l : List α} {P R : α → Bool} (h : ∀ x, x ∈ l → P x = R x) : l.filter P = l.filter R := by
  induction l with
  | nil => rfl
  | cons a l ih =>
    rw [List.filter_cons, List.filter_cons, h a List.mem_cons_self, ih (fun x hx => h x (List.mem_cons_of_mem _ hx))]
/-- the first one of the least cost -/
def bstL {α : Type} (c : α → Nat) : List α → Option α
  | [] => none
  | x :: l => match bstL c l with
    | none => some x
    | some y => if c x ≤ c y then some x else some y
theorem bstL_none {α : Type} {c : α → Nat} : ∀ {l : List α}, bstL c l = none ↔ l = []
  | [] => by simp [bstL]
  | x :: l => by
    simp only [bstL]
    split
    · simp
    · split <;> simp
theorem bstL_mem {α : Type} {c : α → Nat} : ∀ {l : List α} {x : α}, bstL c l = some x → x ∈ l ∧ ∀ y, y ∈ l → c x ≤ c y
  | [], x, h => by simp [bstL] at h
  | a :: l, x, h => by
    simp only [bstL] at h
    split at h
    · rename_i h0
      have := bstL_none.mp h0
      subst this
      cases h
      exact ⟨List.mem_cons_self, fun y hy => by rw [List.mem_singleton.mp hy]; exact Nat.le_refl _⟩
    · rename_i z h0
      obtain ⟨h1, h2⟩ := bstL_mem h0
      split at h
      · rename_i hc
        cases h
        refine ⟨List.mem_cons_self, fun y hy => ?_⟩
        rcases List.mem_cons.mp hy with rfl | hy
        · exact Nat.le_refl _
        · exact Nat.le_trans hc (h2 y hy)
      · rename_i hc
        cases h
        refine ⟨List.mem_cons_of_mem _ h1, fun y hy => ?_⟩
        rcases List.mem_cons.mp hy with rfl | hy
        · omega
        · exact h2 y hy
/-- the first one within a limit that none is below -/
theorem bstL_find {α : Type} {c : α → Nat} {L : Nat} : ∀ {l : List α} {x : α}, (∀ y, y ∈ l → L ≤ c y) → l.find? (fun y => decide (c y ≤ L)) = some x → bstL c l = some x
  | [], x, _, h => by simp at h
  | a :: l, x, hl, h => by
    have ha := hl a List.mem_cons_self
    rw [List.find?_cons] at h
    by_cases hc : c a ≤ L
    · simp only [hc, decide_true] at h
      cases h
      simp only [bstL]
      split
      · rfl
      · rename_i y hy
        have := hl y (List.mem_cons_of_mem _ (bstL_mem hy).1)
        rw [if_pos (by omega)]
    · simp only [hc, decide_false] at h
      have ih := bstL_find (fun y hy => hl y (List.mem_cons_of_mem _ hy)) h
      simp only [bstL, ih]
      have := List.find?_some h
      simp only [decide_eq_true_eq] at this
      rw [if_neg (by omega)]
/-- one after the other, each better than all before -/
def impL {α : Type} (c : α → Nat) : Option α → List α → Option α
  | o, [] => o
  | none, x :: l => impL c (some x) l
  | some y, x :: l => impL c (if c x < c y then some x else some y) l
theorem impL_app {α : Type} (c : α → Nat) : ∀ (l m : List α) (o : Option α), impL c o (l ++ m) = impL c (impL c o l) m
  | [], m, o => by cases o <;> rfl
  | x :: l, m, none => by simp only [List.cons_append, impL]; exact impL_app c l m _
  | x :: l, m, some y => by simp only [List.cons_append, impL]; exact impL_app c l m _
theorem impL_some {α : Type} (c : α → Nat) : ∀ (l : List α) (y : α), impL c (some y) l = match bstL c l with
    | none => some y
    | some x => if c x < c y then some x else some y
  | [], y => rfl
  | a :: l, y => by
    simp only [impL, bstL]
    by_cases h : c a < c y
    · rw [if_pos h, impL_some c l a]
      cases hb : bstL c l with
      | none => simp [h]
      | some x =>
        simp only
        by_cases h2 : c x < c a
        · rw [if_pos h2, if_neg (by omega)]; exact (if_pos (by omega)).symm
        · rw [if_neg h2, if_pos (by omega)]; exact (if_pos h).symm
    · rw [if_neg h, impL_some c l y]
      cases hb : bstL c l with
      | none => simp [h]
      | some x =>
        simp only
        by_cases h2 : c a ≤ c x
        · rw [if_pos h2, if_neg (by omega)]; exact (if_neg h).symm
        · rw [if_neg h2]
theorem impL_none {α : Type} (c : α → Nat) (l : List α) : impL c none l = bstL c l := by
  cases l with
  | nil => rfl
  | cons a l =>
    simp only [impL, bstL]
    rw [impL_some]
    cases hb : bstL c l with
    | none => rfl
    | some x =>
      simp only
      by_cases h : c x < c a
      · rw [if_pos h, if_neg (by omega)]
      · rw [if_neg h, if_pos (by omega)]
/-! rules over selections -/
def verA (A : zA) (p v : Nat) : Int := if v = 0 then -1 else aV A p (v - 1)
def inV (A : zA) (f : Int → Bool) (p v : Nat) : Bool := decide (1 ≤ v ∧ v ≤ aN A p) && f (aV A p (v - 1))
def rCn (A : zA) (r : Nat) : Nat := (rC (aR A r)).toNat
def rTn (A : zA) (r : Nat) : Nat := (rT (aR A r)).toNat
def cB (A : zA) (r v : Nat) : Bool := inV A (rCi (aR A r)) (rCn A r) v
def tB (A : zA) (r v : Nat) : Bool := inV A (rTi (aR A r)) (rTn A r) v
def hB (A : zA) (r v : Nat) : Bool := if rB (aR A r) = 1 then !tB A r v else tB A r v
def noC (A : zA) (r : Nat) : Prop := rC (aR A r) = -1
def apB (A : zA) (r : Nat) (s : Nat → Nat) : Bool := decide (rC (aR A r) = -1) || cB A r (s (rCn A r))
def okB (A : zA) (r : Nat) (s : Nat → Nat) : Bool := !apB A r s || hB A r (s (rTn A r))
def SolP (A : zA) (S : Nat → Bool) (s : Nat → Nat) : Prop := (∀ p, p < 8 → s p ≤ aN A p) ∧ ∀ r, r < aC A → (S r = true → okB A r s = true)
def allN (f : Nat → Bool) : Nat → Bool
  | 0 => true
  | n + 1 => allN f n && f n
theorem allN_iff {f : Nat → Bool} : ∀ {n : Nat}, allN f n = true ↔ ∀ i, i < n → f i = true
  | 0 => by simp [allN]
  | n + 1 => by
    simp only [allN, Bool.and_eq_true, allN_iff (n := n)]
    constructor
    · rintro ⟨h1, h2⟩ i hi
      by_cases e : i = n
      · rw [e]; exact h2
      · exact h1 i (by omega)
    · intro h; exact ⟨fun i hi => h i (by omega), h n (by omega)⟩
def solB (A : zA) (S : Nat → Bool) (s : Nat → Nat) : Bool := allN (fun p => decide (s p ≤ aN A p)) 8 && allN (fun r => !S r || okB A r s) (aC A)
theorem imp_b {a b : Bool} : (!a || b) = true ↔ (a = true → b = true) := by cases a <;> cases b <;> simp
theorem solB_iff {A : zA} {S : Nat → Bool} {s : Nat → Nat} : solB A S s = true ↔ SolP A S s := by simp only [solB, SolP, Bool.and_eq_true, allN_iff, decide_eq_true_eq, imp_b]
def solL (A : zA) (S : Nat → Bool) : List (Nat → Nat) := (enum 8 s0).filter (solB A S)
def actS (A : zA) (r : Nat) : Bool := decide (r < aC A) && actB (aF A) (rF (aR A r))
def chB (A : zA) (s : Nat → Nat) (p : Nat) : Bool := decide (verA A p (s p) ≠ aL A p)
def prB (s : Nat → Nat) (p : Nat) : Bool := decide (s p ≠ 0)
def cost (A : zA) (s : Nat → Nat) : Nat := 9 * cnt (chB A s) 8 + cnt (prB s) 8
theorem cost_le (A : zA) (s : Nat → Nat) : cost A s ≤ 80 := by
  have := cnt_le (chB A s) 8
  have := cnt_le (prB s) 8
  unfold cost
  omega
def bestA (A : zA) : Option (Nat → Nat) := bstL (cost A) (solL A (actS A))
theorem solL_mem {A : zA} {S : Nat → Bool} {s : Nat → Nat} (hA : AOK A) : s ∈ solL A S ↔ SolP A S s ∧ ∀ p, 8 ≤ p → s p = 0 := by
  unfold solL
  rw [List.mem_filter, solB_iff, enum_all]
  constructor
  · rintro ⟨⟨h1, h2⟩, h3⟩; exact ⟨h3, h2⟩
  · rintro ⟨h3, h2⟩; exact ⟨⟨fun p hp => Nat.le_trans (h3.1 p hp) (hA.1 p hp), h2⟩, h3⟩
theorem cnt_le2 {f g : Nat → Bool} : ∀ {n : Nat}, (∀ i, i < n → f i = true → g i = true) → cnt f n ≤ cnt g n
  | 0, _ => Nat.le_refl _
  | n + 1, h => by
    have ih := cnt_le2 (n := n) (fun i hi => h i (by omega))
    have h1 := h n (by omega)
    unfold cnt
    cases hf : f n
    · simp; split <;> omega
    · simp [h1 hf]; exact ih
