/-! the reference: why; the fewest rules to a package -/
def dst (A : zA) (t : Nat → Nat) (P r n : Nat) : Prop := ∃ l : List Nat, l.length + 1 = n ∧ Chn A t (rC (aR A r)) (r :: l) (P : Int)
def fr0 (A : zA) (t : Nat → Nat) (P r : Nat) : Nat := if req A t r = true ∧ rT (aR A r) = (P : Int) then 1 else 0
def nxB (A : zA) (f : Nat → Nat) (n r : Nat) : Nat → Bool
  | 0 => false
  | m + 1 => nxB A f n r m || (decide (f m = n) && decide (rC (aR A m) = rT (aR A r)))
def frN (A : zA) (t : Nat → Nat) (f : Nat → Nat) (n r : Nat) : Nat := if f r = 0 ∧ req A t r = true ∧ nxB A f n r (aC A) = true then n + 1 else f r
def frI (A : zA) (t : Nat → Nat) (P : Nat) : Nat → Nat → Nat
  | 0 => fr0 A t P
  | n + 1 => frN A t (frI A t P n) (n + 1)
theorem nxB_iff {A : zA} {f : Nat → Nat} {n r : Nat} : ∀ {m : Nat}, nxB A f n r m = true ↔ ∃ x, x < m ∧ f x = n ∧ rC (aR A x) = rT (aR A r)
  | 0 => by simp [nxB]
  | m + 1 => by
    simp only [nxB, Bool.or_eq_true, Bool.and_eq_true, decide_eq_true_eq, nxB_iff (m := m)]
    constructor
    · rintro (⟨x, h1, h2⟩ | h)
      · exact ⟨x, by omega, h2⟩
      · exact ⟨m, by omega, h⟩
    · rintro ⟨x, h1, h2⟩
      by_cases q : x = m
      · exact Or.inr (q ▸ h2)
      · exact Or.inl ⟨x, by omega, h2⟩
theorem dst_0 {A : zA} {t : Nat → Nat} {P r : Nat} : ¬ dst A t P r 0 := by
  rintro ⟨l, h, -⟩
  omega
theorem dst_1 {A : zA} {t : Nat → Nat} {P r : Nat} : dst A t P r 1 ↔ req A t r = true ∧ rT (aR A r) = (P : Int) := by
  constructor
  · rintro ⟨l, h, g1, -, g2⟩
    have : l = [] := List.eq_nil_of_length_eq_zero (by omega)
    subst this
    exact ⟨g1, g2⟩
  · rintro ⟨h1, h2⟩
    exact ⟨[], rfl, h1, rfl, h2⟩
theorem dst_s {A : zA} {t : Nat → Nat} {P r n : Nat} : dst A t P r (n + 2) ↔ req A t r = true ∧ ∃ x, rC (aR A x) = rT (aR A r) ∧ dst A t P x (n + 1) := by
  constructor
  · rintro ⟨l, h, g1, -, g2⟩
    match l, h, g2 with
    | x :: l', h, ⟨a1, a2, a3⟩ => exact ⟨g1, x, a2, l', by simpa using h, a1, rfl, a3⟩
  · rintro ⟨h1, x, h2, l', h3, a1, -, a3⟩
    exact ⟨x :: l', by simp; omega, h1, rfl, a1, h2, a3⟩
theorem dst_rq {A : zA} {t : Nat → Nat} {P r n : Nat} (h : dst A t P r n) : req A t r = true := by
  obtain ⟨l, -, g, -⟩ := h
  exact g
def FrJ (A : zA) (t : Nat → Nat) (P k : Nat) (f : Nat → Nat) : Prop := ∀ r, (f r = 0 → ∀ n, n ≤ k + 1 → ¬ dst A t P r n) ∧ (f r ≠ 0 → f r ≤ k + 1 ∧ dst A t P r (f r) ∧ ∀ n, n < f r → ¬ dst A t P r n)
theorem frJ_0 (A : zA) (t : Nat → Nat) (P : Nat) : FrJ A t P 0 (fr0 A t P) := by
  intro r
  unfold fr0
  by_cases q : req A t r = true ∧ rT (aR A r) = (P : Int)
  · rw [if_pos q]
    refine ⟨fun e => by omega, fun _ => ⟨by omega, dst_1.mpr q, fun n hn => ?_⟩⟩
    obtain rfl : n = 0 := by omega
    exact dst_0
  · rw [if_neg q]
    refine ⟨fun _ n hn => ?_, fun e => absurd rfl e⟩
    obtain rfl | rfl : n = 0 ∨ n = 1 := by omega
    · exact dst_0
    · exact fun e => q (dst_1.mp e)
theorem frJ_s {A : zA} {t : Nat → Nat} {P k : Nat} {f : Nat → Nat} (h : FrJ A t P k f) : FrJ A t P (k + 1) (frN A t f (k + 1)) := by
  intro r
  obtain ⟨h1, h2⟩ := h r
  unfold frN
  by_cases q : f r = 0 ∧ req A t r = true ∧ nxB A f (k + 1) r (aC A) = true
  · rw [if_pos q]
    obtain ⟨q1, q2, q3⟩ := q
    obtain ⟨x, x1, x2, x3⟩ := nxB_iff.mp q3
    have hx := (h x).2 (by omega)
    rw [x2] at hx
    exact ⟨fun e => by omega, fun _ => ⟨by omega, dst_s.mpr ⟨q2, x, x3, hx.2.1⟩, fun n hn => h1 q1 n (by omega)⟩⟩
  · rw [if_neg q]
    refine ⟨fun e n hn => ?_, fun e => ⟨by have := (h2 e).1; omega, (h2 e).2⟩⟩
    by_cases hk : n ≤ k + 1
    · exact h1 e n hk
    · obtain rfl : n = k + 2 := by omega
      intro hd
      obtain ⟨d1, x, d2, d3⟩ := dst_s.mp hd
      have hx0 : f x ≠ 0 := fun e0 => (h x).1 e0 (k + 1) (by omega) d3
      obtain ⟨y1, y2, y3⟩ := (h x).2 hx0
      by_cases hy : f x = k + 1
      · exact q ⟨e, d1, nxB_iff.mpr ⟨x, req_lt (dst_rq d3), hy, d2⟩⟩
      · obtain ⟨z, hz⟩ : ∃ z, f x = z + 1 := ⟨f x - 1, by omega⟩
        rw [hz] at y2
        exact h1 e (z + 2) (by omega) (dst_s.mpr ⟨d1, x, d2, y2⟩)
theorem frJ_I (A : zA) (t : Nat → Nat) (P : Nat) : ∀ k, FrJ A t P k (frI A t P k)
  | 0 => frJ_0 A t P
  | k + 1 => frJ_s (frJ_I A t P k)
theorem fr_stab {A : zA} {t : Nat → Nat} {P k : Nat} (h : ∀ r, frI A t P k r ≠ k + 1) : frI A t P (k + 1) = frI A t P k := by
  funext r
  show frN A t (frI A t P k) (k + 1) r = _
  unfold frN
  rw [if_neg]
  rintro ⟨-, -, q⟩
  obtain ⟨x, -, x2, -⟩ := nxB_iff.mp q
  exact h x x2
theorem fr_stab2 {A : zA} {t : Nat → Nat} {P k : Nat} (h : ∀ r, frI A t P k r ≠ k + 1) : ∀ j, frI A t P (k + j) = frI A t P k ∧ ∀ r, frI A t P (k + j) r ≠ k + j + 1
  | 0 => ⟨rfl, h⟩
  | j + 1 => by
    obtain ⟨i1, i2⟩ := fr_stab2 h j
    have e := fr_stab i2
    rw [show k + (j + 1) = k + j + 1 by omega, e, i1]
    refine ⟨rfl, fun r => ?_⟩
    have := frJ_I A t P k r
    by_cases q : frI A t P k r = 0
    · omega
    · have := (this.2 q).1
      omega
theorem fr_cnt {A : zA} {t : Nat → Nat} {P : Nat} : ∀ {k r : Nat}, frI A t P k r = k + 1 → k + 1 ≤ cnt (fun r => decide (frI A t P k r ≠ 0)) (aC A)
  | 0, r, h => by
    have hd := ((frJ_I A t P 0 r).2 (by omega)).2.1
    have hl := req_lt (dst_rq hd)
    have := cnt_lt (f := fun _ => false) (g := fun r => decide (frI A t P 0 r ≠ 0)) (n := aC A) (fun i _ e => by simp at e) ⟨r, hl, by simp [h], rfl⟩
    omega
  | k + 1, r, h => by
    have hd := ((frJ_I A t P (k + 1) r).2 (by omega)).2.1
    have hl := req_lt (dst_rq hd)
    have h' : frN A t (frI A t P k) (k + 1) r = k + 1 + 1 := h
    unfold frN at h'
    by_cases q : frI A t P k r = 0 ∧ req A t r = true ∧ nxB A (frI A t P k) (k + 1) r (aC A) = true
    · obtain ⟨x, -, x2, -⟩ := nxB_iff.mp q.2.2
      have ih := fr_cnt x2
      have := cnt_lt (f := fun r => decide (frI A t P k r ≠ 0)) (g := fun r => decide (frI A t P (k + 1) r ≠ 0)) (n := aC A) (fun i _ e => by
        simp only [decide_eq_true_eq] at e ⊢
        show frN A t (frI A t P k) (k + 1) i ≠ 0
        unfold frN
        rw [if_neg (fun w => e w.1)]
        exact e) ⟨r, hl, by simp [h], by simp [q.1]⟩
      omega
    · rw [if_neg q] at h'
      have := ((frJ_I A t P k r).2 (by omega)).1
      omega
def FrS (A : zA) (t : Nat → Nat) (P : Nat) (F : Nat → Nat) : Prop := ∀ r, (F r = 0 → ∀ n, ¬ dst A t P r n) ∧ (F r ≠ 0 → F r ≤ aC A ∧ dst A t P r (F r) ∧ ∀ n, n < F r → ¬ dst A t P r n)
theorem fr_spec (A : zA) (t : Nat → Nat) (P : Nat) : FrS A t P (frI A t P (aC A)) := by
  have hE : ∀ r, frI A t P (aC A) r ≠ aC A + 1 := by
    intro r q
    have h1 := fr_cnt q
    have h2 := cnt_le (fun r => decide (frI A t P (aC A) r ≠ 0)) (aC A)
    omega
  intro r
  obtain ⟨h1, h2⟩ := frJ_I A t P (aC A) r
  refine ⟨fun e n => ?_, fun e => ⟨by have := (h2 e).1; have := hE r; omega, (h2 e).2⟩⟩
  have h3 := (frJ_I A t P (aC A + n) r).1
  rw [(fr_stab2 hE n).1] at h3
  exact h3 e n (by omega)
/-! the walk -/
def fsF (A : zA) (F : Nat → Nat) (b : Int) (n r : Nat) : Int := if F r = n ∧ rC (aR A r) = b then 1 else 0
def fsI (A : zA) (F : Nat → Nat) (b : Int) (n : Nat) : Int := fIx (fsF A F b n) 1 (aC A) 0
def wkL (A : zA) (F : Nat → Nat) : Int → Nat → List Nat
  | _, 0 => []
  | b, n + 1 => (fsI A F b (n + 1)).toNat :: wkL A F (rT (aR A (fsI A F b (n + 1)).toNat)) n
theorem fIx_least {f : Nat → Int} {v : Int} : ∀ {n i : Nat} {k : Nat}, fIx f v n i = (k : Int) → ∀ j, i ≤ j → j < k → f j ≠ v
  | 0, i, k, h => by
    simp only [fIx] at h
    omega
  | n + 1, i, k, h => by
    intro j h1 h2
    simp only [fIx] at h
    by_cases q : f i = v
    · rw [if_pos q] at h
      omega
    · rw [if_neg q] at h
      by_cases e : j = i
      · rw [e]; exact q
      · exact fIx_least h j (by omega) h2
def Mn (A : zA) (t : Nat → Nat) (P : Nat) (b : Int) (n : Nat) : Prop := (∃ m : List Nat, m.length = n ∧ Chn A t b m (P : Int)) ∧ ∀ m : List Nat, Chn A t b m (P : Int) → n ≤ m.length
theorem mn_far {A : zA} {t : Nat → Nat} {P : Nat} {F : Nat → Nat} (hF : FrS A t P F) {b : Int} {n : Nat} (hM : Mn A t P b (n + 1)) {r : Nat} {l : List Nat} (hc : Chn A t b (r :: l) (P : Int)) (hl : l.length = n) : F r = n + 1 ∧ rC (aR A r) = b ∧ r < aC A := by
  obtain ⟨c1, c2, c3⟩ := hc
  have hd : dst A t P r (n + 1) := ⟨l, by omega, c1, rfl, c3⟩
  have h0 : F r ≠ 0 := fun e => (hF r).1 e _ hd
  obtain ⟨f1, ⟨l', f2, g1, -, g3⟩, f3⟩ := (hF r).2 h0
  have := hM.2 (r :: l') ⟨g1, c2, g3⟩
  simp only [List.length_cons] at this
  refine ⟨?_, c2, req_lt c1⟩
  by_cases q : n + 1 < F r
  · exact absurd hd (f3 _ q)
  · omega
theorem wk_step {A : zA} {t : Nat → Nat} {P : Nat} {F : Nat → Nat} (hF : FrS A t P F) {b : Int} {n : Nat} (hM : Mn A t P b (n + 1)) : ∃ x : Nat, fsI A F b (n + 1) = (x : Int) ∧ x < aC A ∧ F x = n + 1 ∧ rC (aR A x) = b ∧ req A t x = true ∧ Mn A t P (rT (aR A x)) n ∧ wkL A F b (n + 1) = x :: wkL A F (rT (aR A x)) n ∧ ∀ y, y < aC A → F y = n + 1 → rC (aR A y) = b → x ≤ y := by
  obtain ⟨m, hm, hc⟩ := hM.1
  match m, hm, hc with
  | r :: l, hm, hc =>
    obtain ⟨e1, e2, e3⟩ := mn_far hF hM hc (by simpa using hm)
    have hne : fsI A F b (n + 1) ≠ -1 := fun q => fIx_none.mp q r (by omega) (by omega) (if_pos ⟨e1, e2⟩)
    obtain ⟨g1, g2, g3⟩ := fIx_some rfl hne
    obtain ⟨x, hx⟩ := Int.eq_ofNat_of_zero_le (a := fIx (fsF A F b (n + 1)) 1 (aC A) 0) (by omega)
    have hx' : fsI A F b (n + 1) = (x : Int) := hx
    have hxx : fIx (fsF A F b (n + 1)) 1 (aC A) 0 = (x : Int) := hx
    rw [hxx] at g1 g2
    rw [hxx, Int.toNat_natCast] at g3
    have g4 : F x = n + 1 ∧ rC (aR A x) = b := by
      by_cases q : F x = n + 1 ∧ rC (aR A x) = b
      · exact q
      · unfold fsF at g3
        rw [if_neg q] at g3
        omega
    obtain ⟨f1, ⟨l', f2, k1, -, k3⟩, f3⟩ := (hF x).2 (by omega)
    refine ⟨x, hx', by omega, g4.1, g4.2, k1, ⟨⟨l', by omega, k3⟩, fun m' hm' => ?_⟩, ?_, fun y y1 y2 y3 => ?_⟩
    · have := hM.2 (x :: m') ⟨k1, g4.2, hm'⟩
      simp only [List.length_cons] at this
      omega
    · simp only [wkL]
      rw [hx', Int.toNat_natCast]
    · by_cases q : y < x
      · exact absurd (if_pos ⟨y2, y3⟩) (fIx_least hxx y (by omega) q)
      · omega
theorem wkL_ok {A : zA} {t : Nat → Nat} {P : Nat} {F : Nat → Nat} (hF : FrS A t P F) : ∀ (n : Nat) {b : Int}, Mn A t P b n → (wkL A F b n).length = n ∧ Chn A t b (wkL A F b n) (P : Int) ∧ ∀ m, Chn A t b m (P : Int) → m.length = n → lexL (wkL A F b n) m
  | 0, b, hM => by
    obtain ⟨m, hm, hc⟩ := hM.1
    have : m = [] := List.eq_nil_of_length_eq_zero hm
    subst this
    exact ⟨rfl, hc, fun m _ _ => trivial⟩
  | n + 1, b, hM => by
    obtain ⟨x, -, x2, x3, x4, x5, x6, x7, x8⟩ := wk_step hF hM
    obtain ⟨i1, i2, i3⟩ := wkL_ok hF n x6
    rw [x7]
    refine ⟨by simp [i1], ⟨x5, x4, i2⟩, fun m hm hl => ?_⟩
    match m, hl, hm with
    | r :: l, hl, hm =>
      have hl : l.length = n := by simpa using hl
      obtain ⟨e1, e2, e3⟩ := mn_far hF hM hm hl
      have := x8 r e3 e1 e2
      by_cases q : x = r
      · have hc := hm.2.2
        rw [← q] at hc
        exact Or.inr ⟨q, i3 l hc hl⟩
      · exact Or.inl (by omega)
def lsF (A : zA) (F : Nat → Nat) : Nat → Nat
  | 0 => 0
  | r + 1 => if (0 < F r ∧ rC (aR A r) = -1) ∧ (lsF A F r = 0 ∨ F r < lsF A F r) then F r else lsF A F r
theorem lsF_ok {A : zA} {F : Nat → Nat} : ∀ n, (lsF A F n = 0 → ∀ r, r < n → rC (aR A r) = -1 → F r = 0) ∧ (lsF A F n ≠ 0 → (∃ r, r < n ∧ rC (aR A r) = -1 ∧ F r = lsF A F n) ∧ ∀ r, r < n → rC (aR A r) = -1 → F r ≠ 0 → lsF A F n ≤ F r)
  | 0 => ⟨fun _ r hr => by omega, fun h => absurd rfl h⟩
  | n + 1 => by
    obtain ⟨i1, i2⟩ := lsF_ok (A := A) (F := F) n
    simp only [lsF]
    by_cases q : (0 < F n ∧ rC (aR A n) = -1) ∧ (lsF A F n = 0 ∨ F n < lsF A F n)
    · rw [if_pos q]
      refine ⟨fun e => by omega, fun _ => ⟨⟨n, by omega, q.1.2, rfl⟩, fun r hr h1 h2 => ?_⟩⟩
      by_cases e : r = n
      · rw [e]; omega
      · by_cases z : lsF A F n = 0
        · exact absurd (i1 z r (by omega) h1) h2
        · have := (i2 z).2 r (by omega) h1 h2
          have := q.2
          omega
    · rw [if_neg q]
      refine ⟨fun e r hr h1 => ?_, fun e => ⟨?_, fun r hr h1 h2 => ?_⟩⟩
      · by_cases z : r = n
        · rw [z] at h1 ⊢
          by_cases w : F n = 0
          · exact w
          · exact absurd ⟨⟨by omega, h1⟩, Or.inl e⟩ q
        · exact i1 e r (by omega) h1
      · obtain ⟨r, r1, r2⟩ := (i2 e).1
        exact ⟨r, by omega, r2⟩
      · by_cases z : r = n
        · rw [z] at h1 h2 ⊢
          by_cases w : F n < lsF A F n
          · exact absurd ⟨⟨by omega, h1⟩, Or.inr w⟩ q
          · omega
        · exact (i2 e).2 r (by omega) h1 h2
theorem ls_mn {A : zA} {t : Nat → Nat} {P : Nat} {F : Nat → Nat} (hF : FrS A t P F) (h0 : lsF A F (aC A) ≠ 0) : Mn A t P (-1) (lsF A F (aC A)) := by
  obtain ⟨⟨r, r1, r2, r3⟩, g⟩ := (lsF_ok (A := A) (F := F) (aC A)).2 h0
  obtain ⟨f1, ⟨l, f2, k1, -, k3⟩, f3⟩ := (hF r).2 (by omega)
  refine ⟨⟨r :: l, by simp; omega, k1, r2, k3⟩, fun m hm => ?_⟩
  match m, hm with
  | [], hm =>
    have : (-1 : Int) = (P : Int) := hm
    omega
  | x :: m', ⟨h1, h2, h3⟩ =>
    have hd : dst A t P x (m'.length + 1) := ⟨m', rfl, h1, rfl, h3⟩
    have hx0 : F x ≠ 0 := fun e => (hF x).1 e _ hd
    have h4 := g x (req_lt h1) h2 hx0
    simp only [List.length_cons]
    by_cases q : m'.length + 1 < F x
    · exact absurd hd (((hF x).2 hx0).2.2 _ q)
    · omega
theorem ls_why {A : zA} {t : Nat → Nat} {P : Nat} {F : Nat → Nat} (hF : FrS A t P F) : WhyR A t P (wkL A F (-1) (lsF A F (aC A))) := by
  by_cases h0 : lsF A F (aC A) = 0
  · rw [h0]
    refine ⟨fun _ m hm hc => ?_, fun q => absurd rfl q⟩
    match m, hm, hc with
    | x :: m', _, ⟨h1, h2, h3⟩ =>
      have hd : dst A t P x (m'.length + 1) := ⟨m', rfl, h1, rfl, h3⟩
      exact (hF x).1 ((lsF_ok (A := A) (F := F) (aC A)).1 h0 x (req_lt h1) h2) _ hd
  · have hM := ls_mn hF h0
    obtain ⟨w1, w2, w3⟩ := wkL_ok hF _ hM
    refine ⟨fun q => ?_, fun q => ⟨q, w2, fun m hm hc => ?_⟩⟩
    · rw [q] at w1
      exact absurd w1.symm h0
    · have := hM.2 m hc
      by_cases e : m.length = lsF A F (aC A)
      · exact Or.inr ⟨by omega, w3 m hc e⟩
      · exact Or.inl (by omega)
