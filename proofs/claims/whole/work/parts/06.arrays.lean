def z_ix (z : Int) (n : Nat) : Prop := 0 ≤ z ∧ z < n ∧ (n : Int) ≤ 2147483647
theorem z_ix_t {z : Int} {n : Nat} (h1 : 0 ≤ z) (h2 : z < (n : Int)) (h3 : (n : Int) ≤ 2147483647) : z_ix z n = True := eq_true ⟨h1, h2, h3⟩
theorem z_ixN {z : Int} {n : Nat} (h : z_ix z n) : (Int32.ofInt z).toNatClampNeg = z.toNat := by
  show (Int32.ofInt z).toInt.toNat = z.toNat
  rw [z_tI ⟨by have := h.1; omega, by have := h.2.1; have := h.2.2; omega⟩]
theorem z_ix_in {z : Int} {n : Nat} (h : z_ix z n) : vp_in (Int32.ofInt z) n := by
  refine vp_in_iff.mpr ?_
  rw [z_tI ⟨by have := h.1; omega, by have := h.2.1; have := h.2.2; omega⟩]
  exact ⟨h.1, h.2.1⟩
def o_iald : zO := fun X K Q h pc ls st => pI st fun z r => pR r fun a r => (gK h a).1 = 9 ∧ z_ix z (gK h a).2 ∧ K h (pc + 1) ls (vI (gI h a z.toNat) :: r)
theorem s_iald {μ : zM} {pc : Nat} (hd : decode μ.2.1 pc = .ok (.iaload, 1)) : z_S μ pc o_iald := by
  intro l G lv mc ms Q cells slots K hK h ls st ho
  have ho1 := pI_inv ho
  clear ho
  obtain ⟨z, r, rfl, ho2⟩ := ho1
  have ho1 := pR_inv ho2
  clear ho2
  obtain ⟨a, r, rfl, hka, hix, ho⟩ := ho1
  intro p e s m args below meth c H locs A C hR hS hL hn hc1 hc2 hlv
  exact va_iald C.1 C.2.1 C.2.2.2.2.2.2.2.2.1.1 hR.1 a 0 (z_at (H := H) (z_cE_9 hka) (z_lt hR hka (by omega))) rfl (z_ix_in hix) hd (by rw [z_ixN hix]; exact hK _ _ _ _ ho p e s m args below meth c H locs A C hR hS hL hn hc1 hc2 hlv)
def o_zald : zO := fun X K Q h pc ls st => pI st fun z r => pR r fun a r => (gK h a).1 = 11 ∧ z_ix z (gK h a).2 ∧ K h (pc + 1) ls (vI (gI h a z.toNat) :: r)
theorem s_zald {μ : zM} {pc : Nat} (hd : decode μ.2.1 pc = .ok (.baload, 1)) : z_S μ pc o_zald := by
  intro l G lv mc ms Q cells slots K hK h ls st ho
  have ho1 := pI_inv ho
  clear ho
  obtain ⟨z, r, rfl, ho2⟩ := ho1
  have ho1 := pR_inv ho2
  clear ho2
  obtain ⟨a, r, rfl, hka, hix, ho⟩ := ho1
  intro p e s m args below meth c H locs A C hR hS hL hn hc1 hc2 hlv
  exact va_zald C.1 C.2.1 C.2.2.2.2.2.2.2.2.1.1 hR.1 a 2 (z_at (H := H) (z_cE_11 hka) (z_lt hR hka (by omega))) rfl (z_ix_in hix) hd (by rw [z_ixN hix]; exact hK _ _ _ _ ho p e s m args below meth c H locs A C hR hS hL hn hc1 hc2 hlv)
def o_lald : zO := fun X K Q h pc ls st => pI st fun z r => pR r fun a r => (gK h a).1 = 10 ∧ z_ix z (gK h a).2 ∧ K h (pc + 1) ls (vL (gL h a z.toNat) :: r)
theorem s_lald {μ : zM} {pc : Nat} (hd : decode μ.2.1 pc = .ok (.laload, 1)) : z_S μ pc o_lald := by
  intro l G lv mc ms Q cells slots K hK h ls st ho
  have ho1 := pI_inv ho
  clear ho
  obtain ⟨z, r, rfl, ho2⟩ := ho1
  have ho1 := pR_inv ho2
  clear ho2
  obtain ⟨a, r, rfl, hka, hix, ho⟩ := ho1
  intro p e s m args below meth c H locs A C hR hS hL hn hc1 hc2 hlv
  exact va_lald C.1 C.2.1 C.2.2.2.2.2.2.2.2.1.1 hR.1 a 1 (z_at (H := H) (z_cE_10 hka) (z_lt hR hka (by omega))) rfl (z_ix_in hix) hd (by rw [z_ixN hix]; exact hK _ _ _ _ ho p e s m args below meth c H locs A C hR hS hL hn hc1 hc2 hlv)
def o_aald (t : Nat) : zO := fun X K Q h pc ls st => pI st fun z r => pR r fun a r => (gK h a).1 = t ∧ z_ix z (gK h a).2 ∧ K h (pc + 1) ls (vO (gR h a z.toNat) :: r)
theorem s_aald {μ : zM} {pc t : Nat} (hd : decode μ.2.1 pc = .ok (.aaload, 1)) (ht : t = 12 ∨ t = 13) : z_S μ pc (o_aald t) := by
  intro l G lv mc ms Q cells slots K hK h ls st ho
  have ho1 := pI_inv ho
  clear ho
  obtain ⟨z, r, rfl, ho2⟩ := ho1
  have ho1 := pR_inv ho2
  clear ho2
  obtain ⟨a, r, rfl, hka, hix, ho⟩ := ho1
  intro p e s m args below meth c H locs A C hR hS hL hn hc1 hc2 hlv
  have hat := z_at (H := H) (z_cE_q (b := G.1) (ac := G.2.2) hka (by omega)) (z_lt hR hka (by omega))
  rcases ht with rfl | rfl
  · exact va_aldq C.1 C.2.1 C.2.2.2.2.2.2.2.2.1.1 hR.1 a 3 hat rfl (z_ix_in hix) hd (by rw [z_ixN hix]; exact hK _ _ _ _ ho p e s m args below meth c H locs A C hR hS hL hn hc1 hc2 hlv)
  · exact va_aldq C.1 C.2.1 C.2.2.2.2.2.2.2.2.1.1 hR.1 a 4 hat rfl (z_ix_in hix) hd (by rw [z_ixN hix]; exact hK _ _ _ _ ho p e s m args below meth c H locs A C hR hS hL hn hc1 hc2 hlv)
def o_alen : zO := fun X K Q h pc ls st => pR st fun a r => (gK h a).1 = 9 ∧ K h (pc + 1) ls (vI ((gK h a).2 : Int) :: r)
theorem s_alen {μ : zM} {pc : Nat} (hd : decode μ.2.1 pc = .ok (.arraylength, 1)) : z_S μ pc o_alen := by
  intro l G lv mc ms Q cells slots K hK h ls st ho
  have ho1 := pR_inv ho
  clear ho
  obtain ⟨a, r, rfl, hka, ho⟩ := ho1
  intro p e s m args below meth c H locs A C hR hS hL hn hc1 hc2 hlv
  exact va_alen C.1 C.2.1 C.2.2.2.2.2.2.2.2.1.1 hR.1 a 0 (z_at (H := H) (z_cE_9 hka) (z_lt hR hka (by omega))) rfl (by simp [Int32.ofInt_eq_ofNat]) hd (hK _ _ _ _ ho p e s m args below meth c H locs A C hR hS hL hn hc1 hc2 hlv)
def o_iast : zO := fun X K Q h pc ls st => pI st fun x r => pI r fun z r => pR r fun a r => (gK h a).1 = 9 ∧ z_ix z (gK h a).2 ∧ K (sI h a z.toNat x) (pc + 1) ls r
theorem s_iast {μ : zM} {pc : Nat} (hd : decode μ.2.1 pc = .ok (.iastore, 1)) : z_S μ pc o_iast := by
  intro l G lv mc ms Q cells slots K hK h ls st ho
  have ho1 := pI_inv ho
  clear ho
  obtain ⟨x, r, rfl, ho2⟩ := ho1
  have ho1 := pI_inv ho2
  clear ho2
  obtain ⟨z, r, rfl, ho2⟩ := ho1
  have ho1 := pR_inv ho2
  clear ho2
  obtain ⟨a, r, rfl, hka, hix, ho⟩ := ho1
  intro p e s m args below meth c H locs A C hR hS hL hn hc1 hc2 hlv
  have hlt := z_lt hR hka (by omega)
  have hat := hR.1 a _ (z_at (H := H) (z_cE_9 (b := G.1) (ac := G.2.2) hka) hlt)
  refine W.iast C.1 C.2.1 hat ((C.2.2.2.2.2.2.2.2.1.1.2 0 _ rfl).1 _ _) (fun q => by cases q) (by show ¬ (_ < 0 ∨ (arrV _ _ _).slots.size ≤ _); rw [arrV_size]; exact z_ix_in hix) rfl rfl hd fun H1 e1 e2 e3 => ?_
  rw [z_ixN hix] at e1
  have hka' : (gK (sI h a z.toNat x) a).1 = 9 := hka
  have hR' : z_Rel G (sI h a z.toNat x) H1 := hR.put hlt rfl (z_cE_9 hka') (fun q hq => z_cE_ne rfl (sI_ne hq) rfl rfl) (by
    show H1[G.1 + a]? = some (vp_cell _ _)
    rw [e1, vp_cell_i, vp_cell_i, arrV_store]
    refine congrArg some (congrArg (arrV _ _) ?_)
    funext j
    by_cases hj : j = z.toNat
    · subst hj
      simp [updV, gI, sI]
    · simp [updV, gI, sI, hj]) e2 e3
  exact hK _ _ _ _ ho p e s m args below meth c H1 _ A C hR' (hS.put e2 e3 (Nat.le_add_right _ _)) hL hn hc1 hc2 hlv
def o_zast : zO := fun X K Q h pc ls st => pI st fun x r => pI r fun z r => pR r fun a r => (gK h a).1 = 11 ∧ z_ix z (gK h a).2 ∧ (x = 0 ∨ x = 1) ∧ K (sI h a z.toNat x) (pc + 1) ls r
theorem s_zast {μ : zM} {pc : Nat} (hd : decode μ.2.1 pc = .ok (.bastore, 1)) : z_S μ pc o_zast := by
  intro l G lv mc ms Q cells slots K hK h ls st ho
  have ho1 := pI_inv ho
  clear ho
  obtain ⟨x, r, rfl, ho2⟩ := ho1
  have ho1 := pI_inv ho2
  clear ho2
  obtain ⟨z, r, rfl, ho2⟩ := ho1
  have ho1 := pR_inv ho2
  clear ho2
  obtain ⟨a, r, rfl, hka, hix, ho⟩ := ho1
  obtain ⟨hx, ho⟩ := ho
  intro p e s m args below meth c H locs A C hR hS hL hn hc1 hc2 hlv
  have hlt := z_lt hR hka (by omega)
  have hat := hR.1 a _ (z_at (H := H) (z_cE_11 (b := G.1) (ac := G.2.2) hka) hlt)
  have hnar : narrow .boolean (.int (Int32.ofInt x)) = .int (Int32.ofInt x) := by rcases hx with rfl | rfl <;> rfl
  refine W.zast C.1 C.2.1 hat ((C.2.2.2.2.2.2.2.2.1.1.2 2 _ rfl).1 _ _) (fun q => by cases q) (by show ¬ (_ < 0 ∨ (arrV _ _ _).slots.size ≤ _); rw [arrV_size]; exact z_ix_in hix) rfl rfl hd fun H1 e1 e2 e3 => ?_
  rw [z_ixN hix] at e1
  rw [hnar] at e1
  have hka' : (gK (sI h a z.toNat x) a).1 = 11 := hka
  have hR' : z_Rel G (sI h a z.toNat x) H1 := hR.put hlt rfl (z_cE_11 hka') (fun q hq => z_cE_ne rfl (sI_ne hq) rfl rfl) (by
    show H1[G.1 + a]? = some (vp_cell _ _)
    rw [e1, vp_cell_i, vp_cell_i, arrV_store]
    refine congrArg some (congrArg (arrV _ _) ?_)
    funext j
    by_cases hj : j = z.toNat
    · subst hj
      simp [updV, gI, sI]
    · simp [updV, gI, sI, hj]) e2 e3
  exact hK _ _ _ _ ho p e s m args below meth c H1 _ A C hR' (hS.put e2 e3 (Nat.le_add_right _ _)) hL hn hc1 hc2 hlv
def o_last : zO := fun X K Q h pc ls st => pL st fun x r => pI r fun z r => pR r fun a r => (gK h a).1 = 10 ∧ z_ix z (gK h a).2 ∧ K (sL h a z.toNat x) (pc + 1) ls r
theorem s_last {μ : zM} {pc : Nat} (hd : decode μ.2.1 pc = .ok (.lastore, 1)) : z_S μ pc o_last := by
  intro l G lv mc ms Q cells slots K hK h ls st ho
  have ho1 := pL_inv ho
  clear ho
  obtain ⟨x, r, rfl, ho2⟩ := ho1
  have ho1 := pI_inv ho2
  clear ho2
  obtain ⟨z, r, rfl, ho2⟩ := ho1
  have ho1 := pR_inv ho2
  clear ho2
  obtain ⟨a, r, rfl, hka, hix, ho⟩ := ho1
  intro p e s m args below meth c H locs A C hR hS hL hn hc1 hc2 hlv
  have hlt := z_lt hR hka (by omega)
  have hat := hR.1 a _ (z_at (H := H) (z_cE_10 (b := G.1) (ac := G.2.2) hka) hlt)
  refine W.last C.1 C.2.1 hat ((C.2.2.2.2.2.2.2.2.1.1.2 1 _ rfl).1 _ _) (fun q => by cases q) (by show ¬ (_ < 0 ∨ (arrV _ _ _).slots.size ≤ _); rw [arrV_size]; exact z_ix_in hix) rfl rfl hd fun H1 e1 e2 e3 => ?_
  rw [z_ixN hix] at e1
  have hka' : (gK (sL h a z.toNat x) a).1 = 10 := hka
  have hR' : z_Rel G (sL h a z.toNat x) H1 := hR.put hlt rfl (z_cE_10 hka') (fun q hq => z_cE_ne rfl rfl (sL_ne hq) rfl) (by
    show H1[G.1 + a]? = some (vp_cell _ _)
    rw [e1, vp_cell_l, vp_cell_l, arrV_store]
    refine congrArg some (congrArg (arrV _ _) ?_)
    funext j
    by_cases hj : j = z.toNat
    · subst hj
      simp [updV, gL, sL]
    · simp [updV, gL, sL, hj]) e2 e3
  exact hK _ _ _ _ ho p e s m args below meth c H1 _ A C hR' (hS.put e2 e3 (Nat.le_add_right _ _)) hL hn hc1 hc2 hlv
def o_aast (t c0 : Nat) : zO := fun X K Q h pc ls st => pO st fun x r => pI r fun z r => pR r fun a r => (gK h a).1 = t ∧ z_ix z (gK h a).2 ∧ (∀ v, x = some v → (gK h v).1 = c0) ∧ K (sR h a z.toNat x) (pc + 1) ls r
theorem s_aast {μ : zM} {pc t c0 : Nat} (hd : decode μ.2.1 pc = .ok (.aastore, 1)) (ht : (t = 12 ∧ c0 = 4) ∨ (t = 13 ∧ c0 = 6)) : z_S μ pc (o_aast t c0) := by
  intro l G lv mc ms Q cells slots K hK h ls st ho
  have ho1 := pO_inv ho
  clear ho
  obtain ⟨x, r, rfl, ho2⟩ := ho1
  have ho1 := pI_inv ho2
  clear ho2
  obtain ⟨z, r, rfl, ho2⟩ := ho1
  have ho1 := pR_inv ho2
  clear ho2
  obtain ⟨a, r, rfl, hka, hix, ho⟩ := ho1
  obtain ⟨hx, ho⟩ := ho
  intro p e s m args below meth c H locs A C hR hS hL hn hc1 hc2 hlv
  have hlt := z_lt hR hka (by omega)
  have hat := hR.1 a _ (z_at (H := H) (z_cE_q (b := G.1) (ac := G.2.2) hka (by omega)) hlt)
  obtain ⟨t0, hty, hcl⟩ : ∃ t0, (z_tys G.2.2)[t0]? = some (G.2.2 t, FieldType.object (z_cl c0).1) ∧ vwCl[c0]? = some (z_cl c0) := by
    rcases ht with ⟨rfl, rfl⟩ | ⟨rfl, rfl⟩
    · exact ⟨3, rfl, rfl⟩
    · exact ⟨4, rfl, rfl⟩
  have hin := z_ix_in hix
  have fin : ∀ H1 : Heap, H1[G.1 + a]? = some ((vp_cell (G.2.2 t) ((gK h a).2, .inr (.inr (.inr (.inr (fun j => (gR h a j).map (G.1 + ·))))))).setSlot z.toNat (z_mv G.1 (vO x))) → H1.size = H.size → (∀ q, q ≠ G.1 + a → H1[q]? = H[q]?) → W p l e (z_rm lv mc ms) s m args below meth c H1 (locs ++ [⟨G.1 + a, (Int32.ofInt z).toNatClampNeg⟩]) cells slots (MQ below (z_Qc G Q) args s mc ms (fun q => G.1 ≤ q)) (F0 m (pc + 1) A (r.map (z_mv G.1))) := by
    intro H1 e1 e2 e3
    have hka' : (gK (sR h a z.toNat x) a).1 = t := hka
    have hR' : z_Rel G (sR h a z.toNat x) H1 := hR.put hlt rfl (z_cE_q hka' (by omega)) (fun q hq => z_cE_ne rfl rfl rfl (sR_ne hq)) (by
      show H1[G.1 + a]? = some (vp_cell _ _)
      rw [e1, vp_cell_q, vp_cell_q, arrV_store]
      refine congrArg some (congrArg (arrV _ _) ?_)
      funext j
      by_cases hj : j = z.toNat
      · subst hj
        simp [updV, gR, sR, z_mv, vO]
      · simp [updV, gR, sR, hj]) e2 e3
    exact hK _ _ _ _ ho p e s m args below meth c H1 _ A C hR' (hS.put e2 e3 (Nat.le_add_right _ _)) hL hn hc1 hc2 hlv
  cases x with
  | none =>
    refine va_WaastN (C := (z_cl c0).1) C.1 C.2.1 hat ((C.2.2.2.2.2.2.2.2.1.1.2 t0 _ hty).1 _ _) (fun q => by cases q) (by show ¬ (_ < 0 ∨ (arrV _ _ _).slots.size ≤ _); rw [arrV_size]; exact hin) rfl rfl hd fun H1 e1 e2 e3 => ?_
    rw [z_ixN hix] at e1
    exact fin H1 e1 e2 e3
  | some v =>
    have hkv := hx v rfl
    have hc9 : c0 < 9 := by omega
    obtain ⟨rr, -, cellV, g1, g2, g3, -⟩ := hR.1 v _ (z_at (H := H) (z_cE_o (b := G.1) (ac := G.2.2) hkv hc9) (z_lt hR hkv (by omega)))
    have hcls := (C.2.2.2.2.2.2.2.2.1.1.1 c0 _ hcl).2
    obtain ⟨kA, comp, k1, k2, k3, -⟩ := (C.2.2.2.2.2.2.2.2.1.1.2 t0 _ hty).2
    have hcomp : comp = G.2.1.1 c0 := Option.some.inj (k3.symm.trans hcls.1)
    subst hcomp
    obtain ⟨kC, hkC, -⟩ := hcls.2
    refine W.aast C.1 C.2.1 hat (fun q h => by cases h) (fun h => by cases h) k1 k2 rfl hkC ⟨fun q => hin (Or.inl q), by show _ < (arrV _ _ _).slots.size; rw [arrV_size]; exact Nat.not_le.mp fun q => hin (Or.inr q)⟩ g1 (fun q h => by rw [g3] at h; cases h) (by rw [g2]; exact hkC) (by rw [g2]; exact va_assign hcls) rfl rfl hd fun H1 e1 e2 e3 => ?_
    rw [z_ixN hix] at e1
    exact fin H1 e1 e2 e3
def o_oinit : zO := fun X K Q h pc ls st => pR st fun a r => r.length ≤ 10 ∧ K h (pc + 3) ls r
theorem z_catsum (b : Nat) : ∀ r : List zV, ((r.map (z_mv b)).map fun v => v.category).sum ≤ 2 * r.length
  | [] => by simp
  | v :: r => by
    have := z_catsum b r
    have h2 : (z_mv b v).category ≤ 2 := by rcases lv_cat (z_mv b v) with q | q <;> omega
    simp only [List.map_cons, List.sum_cons, List.length_cons]
    omega
theorem s_oinit {μ : zM} {pc i : Nat} (hd : decode μ.2.1 pc = .ok (.invokespecial i, 3)) (hw : Cond.methodLink μ.1.cls i objectInit ∈ z_gw) (hw2 : Cond.instanceMethod objectInit ∈ z_gw) (hw3 : Cond.code objectInit ⟨#[0xb1]⟩ 1 none ∈ z_gw) : z_S μ pc o_oinit := by
  intro l G lv mc ms Q cells slots K hK h ls st ho
  have ho1 := pR_inv ho
  clear ho
  obtain ⟨a, r, rfl, hr, ho⟩ := ho1
  intro p e s m args below meth c H locs A C hR hS hL hn hc1 hc2 hlv
  have hts := C.2.2.2.2.2.2.2.1
  refine W.objInit (a := G.1 + a) (rest := r.map (z_mv G.1)) C.1 C.2.1 C.2.2.2.2.2.2.1 (hts _ hw) (hts _ hw2) (hts _ hw3) rfl (by rw [C.2.2.1]; exact hL.1.trans hn) rfl hd hlv ?_ (hK _ _ _ _ ho p e s m args below meth c H locs A C hR hS hL hn hc1 hc2 hlv)
  have h1 := z_catsum G.1 r
  show 2 * 0 + _ + 12 ≤ 40 * lv
  omega
