/-! the instructions' meanings: what must hold for the next place -/
def InR (z : Int) : Prop := -2147483648 ≤ z ∧ z ≤ 2147483647
def InL (z : Int) : Prop := -9223372036854775808 ≤ z ∧ z ≤ 9223372036854775807
theorem z_tI {z : Int} (h : InR z) : (Int32.ofInt z).toInt = z := by
  rw [Int32.toInt_ofInt, show Int32.size = 4294967296 from rfl]
  unfold InR at h
  exact Int.bmod_eq_of_le (by omega) (by omega)
theorem z_tL {z : Int} (h : InL z) : (Int64.ofInt z).toInt = z := by
  rw [Int64.toInt_ofInt, show Int64.size = 18446744073709551616 from rfl]
  unfold InL at h
  exact Int.bmod_eq_of_le (by omega) (by omega)
theorem InR_t {z : Int} (h1 : -2147483648 ≤ z) (h2 : z ≤ 2147483647) : InR z = True := eq_true ⟨h1, h2⟩
theorem InL_t {z : Int} (h1 : -9223372036854775808 ≤ z) (h2 : z ≤ 9223372036854775807) : InL z = True := eq_true ⟨h1, h2⟩
theorem z_oI (x : Int32) : Int32.ofInt x.toInt = x := Int32.ofInt_toInt x
theorem z_oL (x : Int64) : Int64.ofInt x.toInt = x := Int64.ofInt_toInt x
theorem InR_of (x : Int32) : InR x.toInt := by
  have h1 := Int32.le_toInt x
  have h2 := Int32.toInt_lt x
  unfold InR
  omega
def z_and (a b : Int) : Int := (Int32.ofInt a &&& Int32.ofInt b).toInt
def z_or (a b : Int) : Int := (Int32.ofInt a ||| Int32.ofInt b).toInt
def z_xor (a b : Int) : Int := (Int32.ofInt a ^^^ Int32.ofInt b).toInt
def z_shl (a b : Int) : Int := (Int32.ofInt a <<< (Int32.ofInt b &&& 31)).toInt
def z_shr (a b : Int) : Int := (Int32.ofInt a >>> (Int32.ofInt b &&& 31)).toInt
def z_ushr (a b : Int) : Int := ((Int32.ofInt a).toUInt32 >>> ((Int32.ofInt b).toUInt32 &&& Int32.toUInt32 31)).toInt32.toInt
def y_and (a b : Int) : Int := (Int64.ofInt a &&& Int64.ofInt b).toInt
def y_or (a b : Int) : Int := (Int64.ofInt a ||| Int64.ofInt b).toInt
def y_xor (a b : Int) : Int := (Int64.ofInt a ^^^ Int64.ofInt b).toInt
def y_shl (a b : Int) : Int := (Int64.ofInt a <<< ((Int32.ofInt b).toInt64 &&& 63)).toInt
def y_ushr (a b : Int) : Int := ((Int64.ofInt a).toUInt64 >>> ((Int32.ofInt b).toInt64.toUInt64 &&& Int64.toUInt64 63)).toInt64.toInt
def y_cmp (a b : Int) : Int := if b < a then 1 else if a = b then 0 else -1
def pI (st : List zV) (f : Int → List zV → Prop) : Prop := match st with
  | .inl z :: r => f z r
  | _ => False
def pL (st : List zV) (f : Int → List zV → Prop) : Prop := match st with
  | .inr (.inl z) :: r => f z r
  | _ => False
def pO (st : List zV) (f : Option Nat → List zV → Prop) : Prop := match st with
  | .inr (.inr (.inl o)) :: r => f o r
  | _ => False
def pR (st : List zV) (f : Nat → List zV → Prop) : Prop := match st with
  | .inr (.inr (.inl (some a))) :: r => f a r
  | _ => False
def p1 (st : List zV) (f : zV → List zV → Prop) : Prop := match st with
  | .inl z :: r => f (vI z) r
  | .inr (.inr (.inl o)) :: r => f (vO o) r
  | _ => False
theorem pI_e (z : Int) (r : List zV) (f : Int → List zV → Prop) : pI (vI z :: r) f = f z r := rfl
theorem pL_e (z : Int) (r : List zV) (f : Int → List zV → Prop) : pL (vL z :: r) f = f z r := rfl
theorem pO_e (o : Option Nat) (r : List zV) (f : Option Nat → List zV → Prop) : pO (vO o :: r) f = f o r := rfl
theorem pR_e (a : Nat) (r : List zV) (f : Nat → List zV → Prop) : pR (vO (some a) :: r) f = f a r := rfl
theorem p1_I (z : Int) (r : List zV) (f : zV → List zV → Prop) : p1 (vI z :: r) f = f (vI z) r := rfl
theorem p1_O (o : Option Nat) (r : List zV) (f : zV → List zV → Prop) : p1 (vO o :: r) f = f (vO o) r := rfl
theorem pI_inv {st : List zV} {f : Int → List zV → Prop} (h : pI st f) : ∃ z r, st = vI z :: r ∧ f z r := by
  unfold pI at h
  split at h
  · exact ⟨_, _, rfl, h⟩
  · exact h.elim
theorem pL_inv {st : List zV} {f : Int → List zV → Prop} (h : pL st f) : ∃ z r, st = vL z :: r ∧ f z r := by
  unfold pL at h
  split at h
  · exact ⟨_, _, rfl, h⟩
  · exact h.elim
theorem pO_inv {st : List zV} {f : Option Nat → List zV → Prop} (h : pO st f) : ∃ z r, st = vO z :: r ∧ f z r := by
  unfold pO at h
  split at h
  · exact ⟨_, _, rfl, h⟩
  · exact h.elim
theorem pR_inv {st : List zV} {f : Nat → List zV → Prop} (h : pR st f) : ∃ z r, st = vO (some z) :: r ∧ f z r := by
  unfold pR at h
  split at h
  · exact ⟨_, _, rfl, h⟩
  · exact h.elim
theorem p1_inv {st : List zV} {f : zV → List zV → Prop} (h : p1 st f) : ∃ v r, st = v :: r ∧ f v r ∧ ∀ b, (z_mv b v).category = 1 := by
  unfold p1 at h
  split at h
  · exact ⟨_, _, rfl, h, fun _ => rfl⟩
  · rename_i o r
    exact ⟨_, _, rfl, h, fun b => by cases o <;> rfl⟩
  · exact h.elim
/-! locals -/
def z_gl : List zV → Nat → zV
  | [], _ => vJ
  | a :: _, 0 => a
  | _ :: l, k + 1 => z_gl l k
def z_nl : zV → zV
  | .inr (.inl _) => vJ
  | v => v
theorem z_nl_I (z : Int) : z_nl (vI z) = vI z := rfl
theorem z_nl_O (o : Option Nat) : z_nl (vO o) = vO o := rfl
theorem z_nl_J : z_nl vJ = vJ := rfl
theorem z_nl_L (z : Int) : z_nl (vL z) = vJ := rfl
def z_st1 : List zV → Nat → zV → List zV
  | [], _, _ => []
  | _ :: l, 0, v => v :: l
  | a :: l, 1, v => z_nl a :: z_st1 l 0 v
  | a :: l, k + 2, v => a :: z_st1 l (k + 1) v
def z_st2 : List zV → Nat → zV → List zV
  | _ :: _ :: l, 0, v => v :: vJ :: l
  | a :: l, 1, v => z_nl a :: z_st2 l 0 v
  | a :: l, k + 2, v => a :: z_st2 l (k + 1) v
  | l, _, _ => l
theorem z_gl_some : ∀ {ls : List zV} {k : Nat} {v : zV}, z_gl ls k = v → v ≠ vJ → ls[k]? = some v
  | [], k, v, h, hv => absurd h.symm hv
  | a :: l, 0, v, h, hv => by simpa [z_gl] using h
  | a :: l, k + 1, v, h, hv => by
    rw [List.getElem?_cons_succ]
    exact z_gl_some (by simpa [z_gl] using h) hv
theorem z_st1_len : ∀ (ls : List zV) (i : Nat) (v : zV), (z_st1 ls i v).length = ls.length
  | [], _, _ => by simp [z_st1]
  | a :: l, 0, v => by simp [z_st1]
  | a :: l, 1, v => by simp [z_st1, z_st1_len l 0 v]
  | a :: l, k + 2, v => by simp [z_st1, z_st1_len l (k + 1) v]
theorem z_st2_len : ∀ (ls : List zV) (i : Nat) (v : zV), (z_st2 ls i v).length = ls.length
  | [], _, _ => by simp [z_st2]
  | [a], 0, v => by simp [z_st2]
  | a :: b :: l, 0, v => by simp [z_st2]
  | a :: l, 1, v => by simp [z_st2, z_st2_len l 0 v]
  | a :: l, k + 2, v => by simp [z_st2, z_st2_len l (k + 1) v]
theorem z_nl_ne {u w : zV} (h : z_nl u = w) (hw : w ≠ vJ) : u = w ∧ ∀ z, u ≠ vL z := by
  rcases u with z | z | o | u
  · exact ⟨h, fun _ e => by cases e⟩
  · exact absurd h.symm hw
  · exact ⟨h, fun _ e => by cases e⟩
  · exact ⟨h, fun _ e => by cases e⟩
/-- what stands at another place behind a store stood there before, and is no long that the store cuts -/
theorem z_st1_at : ∀ (ls : List zV) (i : Nat) (v : zV) (k : Nat) (w : zV), (z_st1 ls i v)[k]? = some w → w ≠ vJ → (k = i ∧ w = v) ∨ (k ≠ i ∧ ls[k]? = some w ∧ ¬ (k + 1 = i ∧ ∃ z, w = vL z))
  | [], i, v, k, w, h, hw => by simp [z_st1] at h
  | a :: l, 0, v, k, w, h, hw => by
    cases k with
    | zero => simp [z_st1] at h; exact Or.inl ⟨rfl, h.symm⟩
    | succ k => simp [z_st1] at h; exact Or.inr ⟨by omega, by simpa using h, by omega⟩
  | a :: l, 1, v, k, w, h, hw => by
    cases k with
    | zero =>
      simp [z_st1] at h
      obtain ⟨h1, h2⟩ := z_nl_ne h hw
      refine Or.inr ⟨by omega, by simpa using h1, fun q => ?_⟩
      obtain ⟨z, hz⟩ := q.2
      exact h2 z (h1.trans hz)
    | succ k =>
      simp only [z_st1, List.getElem?_cons_succ] at h
      rcases z_st1_at l 0 v k w h hw with h1 | h1
      · exact Or.inl ⟨by omega, h1.2⟩
      · exact Or.inr ⟨by omega, by simpa using h1.2.1, by omega⟩
  | a :: l, i + 2, v, k, w, h, hw => by
    cases k with
    | zero => simp [z_st1] at h; exact Or.inr ⟨by omega, by simpa using h, by omega⟩
    | succ k =>
      simp only [z_st1, List.getElem?_cons_succ] at h
      rcases z_st1_at l (i + 1) v k w h hw with h1 | h1
      · exact Or.inl ⟨by omega, h1.2⟩
      · exact Or.inr ⟨by omega, by simpa using h1.2.1, fun q => h1.2.2 ⟨by omega, q.2⟩⟩
theorem z_st2_at : ∀ (ls : List zV) (i : Nat) (v : zV) (k : Nat) (w : zV), i + 1 < ls.length → (z_st2 ls i v)[k]? = some w → w ≠ vJ → (k = i ∧ w = v) ∨ (k ≠ i ∧ k ≠ i + 1 ∧ ls[k]? = some w ∧ ¬ (k + 1 = i ∧ ∃ z, w = vL z))
  | [], i, v, k, w, hl, h, hw => by simp at hl
  | [a], 0, v, k, w, hl, h, hw => by simp at hl
  | a :: b :: l, 0, v, k, w, hl, h, hw => by
    match k with
    | 0 => simp [z_st2] at h; exact Or.inl ⟨rfl, h.symm⟩
    | 1 => simp [z_st2] at h; exact absurd h.symm hw
    | k + 2 => simp [z_st2] at h; exact Or.inr ⟨by omega, by omega, by simpa using h, by omega⟩
  | a :: l, 1, v, k, w, hl, h, hw => by
    cases k with
    | zero =>
      simp [z_st2] at h
      obtain ⟨h1, h2⟩ := z_nl_ne h hw
      refine Or.inr ⟨by omega, by omega, by simpa using h1, fun q => ?_⟩
      obtain ⟨z, hz⟩ := q.2
      exact h2 z (h1.trans hz)
    | succ k =>
      simp only [z_st2, List.getElem?_cons_succ] at h
      rcases z_st2_at l 0 v k w (by simp at hl; omega) h hw with h1 | h1
      · exact Or.inl ⟨by omega, h1.2⟩
      · exact Or.inr ⟨by omega, by omega, by simpa using h1.2.2.1, by omega⟩
  | a :: l, i + 2, v, k, w, hl, h, hw => by
    cases k with
    | zero => simp [z_st2] at h; exact Or.inr ⟨by omega, by omega, by simpa using h, by omega⟩
    | succ k =>
      simp only [z_st2, List.getElem?_cons_succ] at h
      rcases z_st2_at l (i + 1) v k w (by simp at hl; omega) h hw with h1 | h1
      · exact Or.inl ⟨by omega, h1.2⟩
      · exact Or.inr ⟨by omega, by omega, by simpa using h1.2.2.1, fun q => h1.2.2.2 ⟨by omega, q.2⟩⟩
def z_prs (b : Nat) (ls : List zV) : List (Nat × Value) := (List.range ls.length).filterMap (fun k => (ls[k]?).bind (fun v => if v = vJ then none else some (k, z_mv b v)))
theorem z_prs_mem {b : Nat} {ls : List zV} {k : Nat} {v : zV} (h : ls[k]? = some v) (hv : v ≠ vJ) : (k, z_mv b v) ∈ z_prs b ls := by
  refine List.mem_filterMap.mpr ⟨k, List.mem_range.mpr (List.getElem?_eq_some_iff.mp h).1, ?_⟩
  rw [h]
  simp [hv]
theorem z_prs_of {b : Nat} {ls : List zV} {q : Nat × Value} (h : q ∈ z_prs b ls) : ∃ v, ls[q.1]? = some v ∧ v ≠ vJ ∧ q.2 = z_mv b v := by
  obtain ⟨k, -, hk⟩ := List.mem_filterMap.mp h
  cases hl : ls[k]? with
  | none => rw [hl] at hk; simp at hk
  | some v =>
    rw [hl] at hk
    by_cases hv : v = vJ
    · simp [hv] at hk
    · simp [hv] at hk
      subst hk
      exact ⟨v, hl, hv, rfl⟩
theorem z_LR.has {b : Nat} {ls : List zV} {A : Array Slot} (h : z_LR b ls A) : lv_has A ls.length (z_prs b ls) := by
  refine ⟨h.1, h.2.1, fun q hq => ?_⟩
  obtain ⟨v, h1, h2, h3⟩ := z_prs_of hq
  rw [h3]
  exact h.2.2 q.1 v h1 h2
theorem z_mv_cat {b : Nat} {v : zV} (h : (z_mv b v).category = 2) : ∃ z, v = vL z := by
  rcases v with z | z | o | u
  · simp [z_mv, Value.category] at h
  · exact ⟨z, rfl⟩
  · cases o <;> simp [z_mv, va_rf, Value.category] at h
  · simp [z_mv, Value.category] at h
theorem z_LR.st1 {b : Nat} {ls : List zV} {A' : Array Slot} {i : Nat} {v : zV} (h' : lv_has A' ls.length ((i, z_mv b v) :: (z_prs b ls).filter (fun q => !(q.1 == i) && !(q.1 + 1 == i && q.2.category == 2)))) : z_LR b (z_st1 ls i v) A' := by
  refine ⟨by rw [z_st1_len]; exact h'.1, h'.2.1, fun k w hk hw => ?_⟩
  rcases z_st1_at ls i v k w hk hw with ⟨rfl, rfl⟩ | ⟨h1, h2, h3⟩
  · exact h'.2.2 _ List.mem_cons_self
  · refine h'.2.2 (k, z_mv b w) (List.mem_cons_of_mem _ (List.mem_filter.mpr ⟨z_prs_mem h2 hw, ?_⟩))
    simp only [Bool.and_eq_true, Bool.not_eq_true', beq_eq_false_iff_ne, Bool.and_eq_false_iff, ne_eq]
    refine ⟨h1, ?_⟩
    by_cases hc : (z_mv b w).category = 2
    · exact Or.inl fun e => h3 ⟨e, z_mv_cat hc⟩
    · exact Or.inr hc
theorem z_LR.st2 {b : Nat} {ls : List zV} {A' : Array Slot} {i : Nat} {v : zV} (hi : i + 1 < ls.length) (h' : lv_has A' ls.length ((i, z_mv b v) :: (z_prs b ls).filter (fun q => !(q.1 == i) && (!(q.1 == i + 1) && !(q.1 + 1 == i && q.2.category == 2))))) : z_LR b (z_st2 ls i v) A' := by
  refine ⟨by rw [z_st2_len]; exact h'.1, h'.2.1, fun k w hk hw => ?_⟩
  rcases z_st2_at ls i v k w hi hk hw with ⟨rfl, rfl⟩ | ⟨h1, h0, h2, h3⟩
  · exact h'.2.2 _ List.mem_cons_self
  · refine h'.2.2 (k, z_mv b w) (List.mem_cons_of_mem _ (List.mem_filter.mpr ⟨z_prs_mem h2 hw, ?_⟩))
    simp only [Bool.and_eq_true, Bool.not_eq_true', beq_eq_false_iff_ne, Bool.and_eq_false_iff, ne_eq]
    refine ⟨h1, h0, ?_⟩
    by_cases hc : (z_mv b w).category = 2
    · exact Or.inl fun e => h3 ⟨e, z_mv_cat hc⟩
    · exact Or.inr hc
