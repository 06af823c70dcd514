theorem z_Rel.push {G : zG} {h : zH} {H H1 : Heap} {kd : Nat × Nat} {e : va_E} (hR : z_Rel G h H) (he : z_cE G.1 G.2.2 (nC h kd) (gS h) = e) (hat : va_at G.2.1 vwCl (G.1 + gS h, e) H1) (z : H1.size = H.size + 1) (oq : ∀ q, q < H.size → H1[q]? = H[q]?) : z_Rel G (nC h kd) H1 := by
  have hs : gS (nC h kd) = gS h + 1 := rfl
  have ho : ∀ q, q < gS h → z_cE G.1 G.2.2 (nC h kd) q = z_cE G.1 G.2.2 h q := by
    intro q hq
    have hne : ¬ q = gS h := by omega
    have h1 : gK (nC h kd) q = gK h q := by simp [gK, nC, hne]
    have h2 : gI (nC h kd) q = gI h q := by funext j; simp [gI, nC, hne]
    have h3 : gL (nC h kd) q = gL h q := by funext j; simp [gL, nC, hne]
    have h4 : gR (nC h kd) q = gR h q := by funext j; simp [gR, nC, hne]
    unfold z_cE z_fs z_fv
    rw [h1, h2, h3, h4]
  refine ⟨?_, by rw [z, hR.2.1, hs]; omega, fun a ha => ?_⟩
  · rw [← z_ws_push hs he ho]
    refine (hR.1.kept fun k q hk => ?_).app fun k q hk => ?_
    · exact oq q.1 (hR.1 k q hk).lt
    · have hz : k < 1 := (List.getElem?_eq_some_iff.mp hk).1
      rw [show k = 0 by omega] at hk
      cases hk
      exact hat
  · have hne : ¬ a = gS h := by rw [hs] at ha; omega
    have h1 : gK (nC h kd) a = gK h a := by simp [gK, nC, hne]
    rw [h1]
    exact hR.2.2 a (by rw [hs] at ha; omega)
theorem z_S_push {b : Nat} {s : State} {H H1 : Heap} {locs : List Loc} (hS : va_S (fun q => b ≤ q) s.heap H locs) (z : H1.size = H.size + 1) (oq : ∀ q, q < H.size → H1[q]? = H[q]?) : va_S (fun q => b ≤ q) s.heap H1 locs :=
  ⟨Nat.le_trans hS.1 (by omega), fun x h1 h2 => (oq x (Nat.lt_of_lt_of_le h1 hS.1)).trans (hS.2.1 x h1 h2), hS.2.2⟩
/-- new C -/
theorem x_new {l : Launch} {G : zG} {μ : zM} {lv mc ms : Nat} {Q : Option zV → zH → Prop} {cells slots : Nat} {h : zH} {pc i : Nat} {ls st : List zV} (c0 : Nat) (hd : decode μ.2.1 pc = .ok (.new i, 3)) (hc0 : c0 < 9) (hw1 : Cond.classLink μ.1.cls i (z_cl c0).1 ∈ z_gw) (hw2 : Cond.instantiable (z_cl c0).1 (z_nf c0) ∈ z_gw) (hw3 : Cond.initialized (z_cl c0).1 ∈ z_gw)
    (k1 : cells + 1 ≤ mc) (k2 : slots + z_nf c0 ≤ ms) (kk : z_X l G μ lv mc ms Q (cells + 1) (slots + z_nf c0) (nC h (c0, 0)) (pc + 3) ls (vR (gS h) :: st)) : z_X l G μ lv mc ms Q cells slots h pc ls st := by
  intro p e s m args below meth c H locs A C hR hS hL hn hc1 hc2 hlv
  obtain ⟨q1, q2, q3, q4, q5⟩ := z_clok c0 hc0
  have hts := C.2.2.2.2.2.2.2.1
  have hkn := C.2.2.2.2.2.2.2.2.1.1
  have hKn := hkn.1 c0 _ q1
  refine W.newcK C.1 C.2.1 C.2.2.2.2.2.2.1 (hts _ hw1) (hts _ hw2) (hts _ hw3) rfl hd k1 k2 hKn.2.1 hR.2.1 fun H1 kC hkC e1 z1 o1 => ?_
  have z1 : H1.size = H.size + 1 := by rw [z1, hR.2.1]
  have o1 : ∀ q, q < H.size → H1[q]? = H[q]? := by rw [hR.2.1]; exact o1
  have hka : (gK (nC h (c0, 0)) (gS h)).1 = c0 := by simp [gK, nC]
  refine kk p e s m args below meth c H1 locs A C (hR.push (z_cE_o hka hc0) ⟨_, q1, (u_born (z_ty c0) hts q2 hKn hkC e1 q3).to ?_⟩ z1 o1) (z_S_push hS z1 o1) hL hn k1 k2 hlv
  intro j hj
  have hj' : j < z_nf c0 := by rw [← q5]; exact hj
  have hg : vp_V (z_fs G.1 (nC h (c0, 0)) (gS h) c0) j = z_fv G.1 (nC h (c0, 0)) (gS h) j (z_ty c0 j) := by
    simp [vp_V, List.getD, z_fs_get hj']
  rw [hg]
  have hI : gI (nC h (c0, 0)) (gS h) j = 0 := by simp [gI, nC]
  have hLo : gL (nC h (c0, 0)) (gS h) j = 0 := by simp [gL, nC]
  have hRe : gR (nC h (c0, 0)) (gS h) j = none := by simp [gR, nC]
  have hex : z_ty c0 j = .int ∨ z_ty c0 j = .boolean ∨ z_ty c0 j = .long ∨ (∃ n, z_ty c0 j = .object n) ∨ ∃ t, z_ty c0 j = .array t := by
    have hall : ∀ c, c < 9 → ∀ j, j < z_nf c → (match z_ty c j with | .int => true | .boolean => true | .long => true | .object _ => true | .array _ => true | _ => false) = true := by decide +kernel
    have := hall c0 hc0 j hj'
    revert this
    cases z_ty c0 j <;> simp
  rcases hex with q | q | q | ⟨n, q⟩ | ⟨t, q⟩ <;> rw [q] <;> simp [z_fv, hI, hLo, hRe, defaultValue, va_rf] <;> rfl
theorem x_newai {l : Launch} {G : zG} {μ : zM} {lv mc ms : Nat} {Q : Option zV → zH → Prop} {cells slots : Nat} {h : zH} {pc : Nat} {ls st : List zV} (N : Nat) (hd : decode μ.2.1 pc = .ok (.newarray .int, 2)) (hw : Cond.arrayClass .int ∈ z_gw) (hN : N ≤ 60000)
    (k1 : cells + 1 ≤ mc) (k2 : slots + N ≤ ms) (kk : z_X l G μ lv mc ms Q (cells + 1) (slots + N) (nC h (9, N)) (pc + 2) ls (vR (gS h) :: st)) : z_X l G μ lv mc ms Q cells slots h pc ls (vI (N : Int) :: st) := by
  intro p e s m args below meth c H locs A C hR hS hL hn hc1 hc2 hlv
  have hts := C.2.2.2.2.2.2.2.1
  have hkn := C.2.2.2.2.2.2.2.2.1.1
  have hr : InR (N : Int) := ⟨by omega, by omega⟩
  refine va_newaK (atype := .int) (n := Int32.ofInt (N : Int)) (N := N) C.1 C.2.1 (hts _ hw) rfl hd rfl (by rw [show (0 : Int32) = Int32.ofInt 0 from rfl, z_clt hr z_R0]; omega) (by show (Int32.ofInt (N : Int)).toInt.toNat = N; rw [z_tI hr]; rfl) (by simp [newarray.typeOf, componentBytes]; omega) k1 k2 hR.2.1 fun H1 cA e1 z1 o1 hAr hNm => ?_
  have z1 : H1.size = H.size + 1 := by rw [z1, hR.2.1]
  have o1 : ∀ q, q < H.size → H1[q]? = H[q]? := by rw [hR.2.1]; exact o1
  have hcA : cA = G.2.2 9 := Option.some.inj (hNm.symm.trans ((hkn.2 0 _ rfl).2))
  subst hcA
  have hka : (gK (nC h (9, N)) (gS h)).1 = 9 := by simp [gK, nC]
  have hlen : (gK (nC h (9, N)) (gS h)).2 = N := by simp [gK, nC]
  refine kk p e s m args below meth c H1 locs A C (hR.push (z_cE_9 hka) ?_ z1 o1) (z_S_push hS z1 o1) hL hn k1 k2 hlv
  show H1[G.1 + gS h]? = some (vp_cell _ _)
  rw [e1, hlen, vp_cell_i]
  refine congrArg some (congrArg (arrV _ _) ?_)
  funext j
  simp [gI, nC, newarray.typeOf, defaultValue]
theorem x_newal {l : Launch} {G : zG} {μ : zM} {lv mc ms : Nat} {Q : Option zV → zH → Prop} {cells slots : Nat} {h : zH} {pc : Nat} {ls st : List zV} (N : Nat) (hd : decode μ.2.1 pc = .ok (.newarray .long, 2)) (hw : Cond.arrayClass .long ∈ z_gw) (hN : N ≤ 60000)
    (k1 : cells + 1 ≤ mc) (k2 : slots + N ≤ ms) (kk : z_X l G μ lv mc ms Q (cells + 1) (slots + N) (nC h (10, N)) (pc + 2) ls (vR (gS h) :: st)) : z_X l G μ lv mc ms Q cells slots h pc ls (vI (N : Int) :: st) := by
  intro p e s m args below meth c H locs A C hR hS hL hn hc1 hc2 hlv
  have hts := C.2.2.2.2.2.2.2.1
  have hkn := C.2.2.2.2.2.2.2.2.1.1
  have hr : InR (N : Int) := ⟨by omega, by omega⟩
  refine va_newaK (atype := .long) (n := Int32.ofInt (N : Int)) (N := N) C.1 C.2.1 (hts _ hw) rfl hd rfl (by rw [show (0 : Int32) = Int32.ofInt 0 from rfl, z_clt hr z_R0]; omega) (by show (Int32.ofInt (N : Int)).toInt.toNat = N; rw [z_tI hr]; rfl) (by simp [newarray.typeOf, componentBytes]; omega) k1 k2 hR.2.1 fun H1 cA e1 z1 o1 hAr hNm => ?_
  have z1 : H1.size = H.size + 1 := by rw [z1, hR.2.1]
  have o1 : ∀ q, q < H.size → H1[q]? = H[q]? := by rw [hR.2.1]; exact o1
  have hcA : cA = G.2.2 10 := Option.some.inj (hNm.symm.trans ((hkn.2 1 _ rfl).2))
  subst hcA
  have hka : (gK (nC h (10, N)) (gS h)).1 = 10 := by simp [gK, nC]
  have hlen : (gK (nC h (10, N)) (gS h)).2 = N := by simp [gK, nC]
  refine kk p e s m args below meth c H1 locs A C (hR.push (z_cE_10 hka) ?_ z1 o1) (z_S_push hS z1 o1) hL hn k1 k2 hlv
  show H1[G.1 + gS h]? = some (vp_cell _ _)
  rw [e1, hlen, vp_cell_l]
  refine congrArg some (congrArg (arrV _ _) ?_)
  funext j
  simp [gL, nC, newarray.typeOf, defaultValue]
theorem x_newaz {l : Launch} {G : zG} {μ : zM} {lv mc ms : Nat} {Q : Option zV → zH → Prop} {cells slots : Nat} {h : zH} {pc : Nat} {ls st : List zV} (N : Nat) (hd : decode μ.2.1 pc = .ok (.newarray .boolean, 2)) (hw : Cond.arrayClass .boolean ∈ z_gw) (hN : N ≤ 60000)
    (k1 : cells + 1 ≤ mc) (k2 : slots + N ≤ ms) (kk : z_X l G μ lv mc ms Q (cells + 1) (slots + N) (nC h (11, N)) (pc + 2) ls (vR (gS h) :: st)) : z_X l G μ lv mc ms Q cells slots h pc ls (vI (N : Int) :: st) := by
  intro p e s m args below meth c H locs A C hR hS hL hn hc1 hc2 hlv
  have hts := C.2.2.2.2.2.2.2.1
  have hkn := C.2.2.2.2.2.2.2.2.1.1
  have hr : InR (N : Int) := ⟨by omega, by omega⟩
  refine va_newaK (atype := .boolean) (n := Int32.ofInt (N : Int)) (N := N) C.1 C.2.1 (hts _ hw) rfl hd rfl (by rw [show (0 : Int32) = Int32.ofInt 0 from rfl, z_clt hr z_R0]; omega) (by show (Int32.ofInt (N : Int)).toInt.toNat = N; rw [z_tI hr]; rfl) (by simp [newarray.typeOf, componentBytes]; omega) k1 k2 hR.2.1 fun H1 cA e1 z1 o1 hAr hNm => ?_
  have z1 : H1.size = H.size + 1 := by rw [z1, hR.2.1]
  have o1 : ∀ q, q < H.size → H1[q]? = H[q]? := by rw [hR.2.1]; exact o1
  have hcA : cA = G.2.2 11 := Option.some.inj (hNm.symm.trans ((hkn.2 2 _ rfl).2))
  subst hcA
  have hka : (gK (nC h (11, N)) (gS h)).1 = 11 := by simp [gK, nC]
  have hlen : (gK (nC h (11, N)) (gS h)).2 = N := by simp [gK, nC]
  refine kk p e s m args below meth c H1 locs A C (hR.push (z_cE_11 hka) ?_ z1 o1) (z_S_push hS z1 o1) hL hn k1 k2 hlv
  show H1[G.1 + gS h]? = some (vp_cell _ _)
  rw [e1, hlen, vp_cell_i]
  refine congrArg some (congrArg (arrV _ _) ?_)
  funext j
  simp [gI, nC, newarray.typeOf, defaultValue]
theorem x_newq {l : Launch} {G : zG} {μ : zM} {lv mc ms : Nat} {Q : Option zV → zH → Prop} {cells slots : Nat} {h : zH} {pc i : Nat} {ls st : List zV} (t c0 N : Nat) (hd : decode μ.2.1 pc = .ok (.anewarray i, 3)) (ht : (t = 12 ∧ c0 = 4) ∨ (t = 13 ∧ c0 = 6)) (hw : Cond.classLink μ.1.cls i (z_cl c0).1 ∈ z_gw) (hN : N ≤ 60000)
    (k1 : cells + 1 ≤ mc) (k2 : slots + N ≤ ms) (kk : z_X l G μ lv mc ms Q (cells + 1) (slots + N) (nC h (t, N)) (pc + 3) ls (vR (gS h) :: st)) : z_X l G μ lv mc ms Q cells slots h pc ls (vI (N : Int) :: st) := by
  intro p e s m args below meth c H locs A C hR hS hL hn hc1 hc2 hlv
  have hts := C.2.2.2.2.2.2.2.1
  have hkn := C.2.2.2.2.2.2.2.2.1.1
  have hr : InR (N : Int) := ⟨by omega, by omega⟩
  obtain ⟨t0, hty, hov⟩ : ∃ t0, (z_tys G.2.2)[t0]? = some (G.2.2 t, FieldType.object (z_cl c0).1) ∧ va_AO (z_cl c0).1 s := by
    rcases ht with ⟨rfl, rfl⟩ | ⟨rfl, rfl⟩
    · exact ⟨3, rfl, C.2.2.2.2.2.2.2.2.1.2.2.1⟩
    · exact ⟨4, rfl, C.2.2.2.2.2.2.2.2.1.2.2.2⟩
  have hNn : (Int32.ofInt (N : Int)).toNatClampNeg = N := by show (Int32.ofInt (N : Int)).toInt.toNat = N; rw [z_tI hr]; rfl
  refine W.anew (n := Int32.ofInt (N : Int)) C.1 C.2.1 C.2.2.2.2.2.2.1 (hts _ hw) (va_AO.use hov) rfl hd rfl (by rw [show (0 : Int32) = Int32.ofInt 0 from rfl, z_clt hr z_R0]; omega) (by rw [hNn]; omega) k1 (by rw [hNn]; exact k2) fun cA kA comp f1 f2 f3 f4 => ?_
  rw [hNn, hR.2.1]
  generalize hH1 : H.push ({ cls := cA, slots := Array.replicate N .null, vm := .none } : Cell) = H1
  have z1 : H1.size = H.size + 1 := by rw [← hH1, Array.size_push]
  have e1 : H1[G.1 + gS h]? = some (arrV cA N (fun _ => .null)) := by rw [← hR.2.1, ← hH1, Array.getElem?_push_size, ← arrV_new]
  have o1 : ∀ q : Nat, q < H.size → H1[q]? = H[q]? := fun q hq => by rw [← hH1, Array.getElem?_push, if_neg (Nat.ne_of_lt hq)]
  obtain ⟨kA', comp', -, -, -, f5⟩ := (hkn.2 t0 _ hty).2
  have hcA : cA = G.2.2 t := Option.some.inj (f1.symm.trans f5)
  subst hcA
  have hka : (gK (nC h (t, N)) (gS h)).1 = t := by simp [gK, nC]
  have hlen : (gK (nC h (t, N)) (gS h)).2 = N := by simp [gK, nC]
  refine kk p e s m args below meth c H1 locs A C (hR.push (z_cE_q hka (by omega)) ?_ z1 o1) (z_S_push hS z1 o1) hL hn k1 k2 hlv
  show H1[G.1 + gS h]? = some (vp_cell _ _)
  rw [e1, hlen, vp_cell_q]
  refine congrArg some (congrArg (arrV _ _) ?_)
  funext j
  simp [gR, nC, va_rf]
def sA (h : zH) (a : Nat) (f : Nat → Int) : zH := (h.1, (fun b j => if b = a then f j else gI h b j), gL h, gR h)
theorem x_acopy {l : Launch} {G : zG} {μ : zM} {lv mc ms : Nat} {Q : Option zV → zH → Prop} {h : zH} {pc i : Nat} {ls st : List zV} {a0 a1 : Nat} {sp dp n : Int} (hd : decode μ.2.1 pc = .ok (.invokestatic i, 3)) (hw1 : Cond.methodLink μ.1.cls i arraycopyName ∈ z_gw) (hw2 : Cond.native arraycopyName ∈ z_gw) (hw3 : Cond.static arraycopyName ∈ z_gw) (hw4 : Cond.initialized "java/lang/System" ∈ z_gw)
    (hk0 : (gK h a0).1 = 9) (hk1 : (gK h a1).1 = 9) (h1 : 0 ≤ sp) (h2 : 0 ≤ dp) (h3 : 0 ≤ n) (h4 : sp + n ≤ (gK h a0).2) (h5 : dp + n ≤ (gK h a1).2) (h6 : (gK h a0).2 ≤ 2000000000) (h7 : (gK h a1).2 ≤ 2000000000) (hst : st.length ≤ 6)
    (kk : z_X l G μ lv mc ms Q 0 0 (sA h a1 (fun j => if dp.toNat ≤ j ∧ j < dp.toNat + n.toNat then gI h a0 (sp.toNat + (j - dp.toNat)) else gI h a1 j)) (pc + 3) ls st) : z_X l G μ lv mc ms Q 0 0 h pc ls (vI n :: vI dp :: vR a1 :: vI sp :: vR a0 :: st) := by
  intro p e s m args below meth c H locs A C hR hS hL hn hc1 hc2 hlv
  have hts := C.2.2.2.2.2.2.2.1
  have hkn := C.2.2.2.2.2.2.2.2.1.1
  have hl0 := z_lt hR hk0 (by omega)
  have hl1 := z_lt hR hk1 (by omega)
  have r1 : InR sp := ⟨by omega, by omega⟩
  have r2 : InR dp := ⟨by omega, by omega⟩
  have r3 : InR n := ⟨by omega, by omega⟩
  have c1 : (Int32.ofInt sp).toNatClampNeg = sp.toNat := by show (Int32.ofInt sp).toInt.toNat = _; rw [z_tI r1]
  have c2 : (Int32.ofInt dp).toNatClampNeg = dp.toNat := by show (Int32.ofInt dp).toInt.toNat = _; rw [z_tI r2]
  have c3 : (Int32.ofInt n).toNatClampNeg = n.toNat := by show (Int32.ofInt n).toInt.toNat = _; rw [z_tI r3]
  have hcat := z_catsum G.1 st
  intro T0 hT0 X0
  have sz0 : H.size = s.heap.size := by
    have q1 : H.size ≤ s.heap.size := by rw [← hT0]; exact X0.same.2.2.1
    have q2 := hS.1
    omega
  refine (va_copyi (n := Int32.ofInt n) (sp := Int32.ofInt sp) (dp := Int32.ofInt dp) C.1 C.2.1 (by rw [C.2.2.1]; exact (hL.1.trans hn).symm) C.2.2.2.2.2.2.1 (hts _ hw1) (hts _ hw2) (hts _ hw3) (hts _ hw4) hkn hR.1 z_ws_D hS a0 a1 0 0 (z_at (H := H) (z_cE_9 hk0) hl0) (z_at (H := H) (z_cE_9 hk1) hl1) rfl rfl rfl
    (by rw [show (0 : Int32) = Int32.ofInt 0 from rfl, z_clt r1 z_R0]; omega) (by rw [show (0 : Int32) = Int32.ofInt 0 from rfl, z_clt r2 z_R0]; omega) (by rw [show (0 : Int32) = Int32.ofInt 0 from rfl, z_clt r3 z_R0]; omega) (by rw [c1, c3]; omega) (by rw [c2, c3]; omega) (fun _ _ => rfl) hlv (by
      show _ + (nativeFrameWords "java/lang/System" "arraycopy" 5 + 11) ≤ 40 * lv
      rw [show nativeFrameWords "java/lang/System" "arraycopy" 5 = 7 from by decide +kernel]
      omega) hd fun H1 locs1 hP1 hD1 hS1 => ?_) T0 hT0 X0
  intro T hT X
  have zsz := X.same
  have sz1 : H1.size ≤ s.heap.size := by rw [← hT]; exact zsz.2.2.1
  have sz2 : s.heap.size ≤ H1.size := hS1.1
  refine kk p e s m args below meth c H1 locs1 A C ?_ hS1 hL hn hc1 hc2 hlv T hT X
  rw [c1, c2, c3] at hP1
  have hka' : (gK (sA h a1 (fun j => if dp.toNat ≤ j ∧ j < dp.toNat + n.toNat then gI h a0 (sp.toNat + (j - dp.toNat)) else gI h a1 j)) a1).1 = 9 := hk1
  refine ⟨?_, by show H1.size = G.1 + gS h; rw [← hR.2.1]; omega, hR.2.2⟩
  rw [← z_ws_set (b := G.1) (ac := G.2.2) (h := h) (h' := sA h a1 (fun j => if dp.toNat ≤ j ∧ j < dp.toNat + n.toNat then gI h a0 (sp.toNat + (j - dp.toNat)) else gI h a1 j)) (a := a1) rfl (z_cE_9 hka') (fun q hq => z_cE_ne rfl (by funext j; simp [gI, sA, hq]) rfl rfl)]
  have hcp : (fun j => Int32.ofInt (gI (sA h a1 (fun j => if dp.toNat ≤ j ∧ j < dp.toNat + n.toNat then gI h a0 (sp.toNat + (j - dp.toNat)) else gI h a1 j)) a1 j)) = va_cpy (fun j => Int32.ofInt (gI h a0 j)) (fun j => Int32.ofInt (gI h a1 j)) sp.toNat dp.toNat n.toNat := by
    funext j
    show Int32.ofInt (if a1 = a1 then (if dp.toNat ≤ j ∧ j < dp.toNat + n.toNat then gI h a0 (sp.toNat + (j - dp.toNat)) else gI h a1 j) else gI h a1 j) = _
    rw [if_pos rfl]
    by_cases hj : dp.toNat ≤ j ∧ j < dp.toNat + n.toNat
    · rw [pk_cpy_in hj.1 hj.2, if_pos hj]
    · rw [pk_cpy_out (by omega), if_neg hj]
  rw [hcp]
  exact hP1
/-! calls -/
theorem z_cont {p : Program} {l : Launch} {e : Env} {R : Room} {s : State} {m : MethodId} {args : Array Value} {below : List Frame} {meth : Method} {c : Code} {H : Heap} {locs : List Loc} {cells slots mc' ms' : Nat} {Z : State → Prop} {G : zG} {Q' : Option zV → zH → Prop} {a : Array Value} {pc : Nat} {A : Array Slot} {st0 rest : List Value}
    (hr : va_Run p l e R s m args below meth c H locs cells slots mc' ms' (F0 m pc A st0) rest (z_Qc G Q' a) (fun q => G.1 ≤ q)) (hS : va_S (fun q => G.1 ≤ q) s.heap H locs)
    (kk : ∀ (r : Option zV) (h' : zH) (H1 : Heap) (locs1 : List Loc), Q' r h' → z_Rel G h' H1 → va_S (fun q => G.1 ≤ q) s.heap H1 locs1 → W p l e R s m args below meth c H1 locs1 (cells + mc') (slots + ms') Z (F0 m (pc + 3) A ((r.map (z_mv G.1)).toList ++ rest))) : W p l e R s m args below meth c H locs cells slots Z (F0 m pc A st0) := by
  intro T hT X
  obtain ⟨v, st₀, t, T', L, h0, X', hL, e1, e2, ⟨⟨r, h', hv, hq, hb⟩, hz, hk⟩, st⟩ := hr T hT X
  cases hv
  rw [h0] at hz hk
  obtain ⟨t2, a1, b1⟩ := kk r h' T'.heap (locs ++ L) hq (by rw [e1]; exact hb)
    ⟨Nat.le_trans hS.1 (by rw [e1]; exact hz), fun q h1 h2 => by rw [e1, hk q (Nat.lt_of_lt_of_le h1 hS.1) h2]; exact hS.2.1 q h1 h2, fun q hq => by
      rcases List.mem_append.mp hq with h | h
      · exact hS.2.2 q h
      · exact hL q h⟩ T' rfl X'
  exact ⟨t2, st t2 a1, b1⟩
theorem z_goodc {ν : zM} {args : Array Value} {s : State} (hts : ∀ w ∈ z_gw, w.before args s = true) (hc : Cond.code ν.1 ν.2.1 ν.2.2.1 ν.2.2.2 ∈ z_gw) : GoodIn z_gw (z_wo ν) := by
  intro w hw
  rcases List.mem_cons.mp hw with rfl | h
  · exact z_good _ hc
  · exact z_good w h
theorem z_blind {G : zG} {av : List zV} {h : zH} : FrameBlind (z_Pc G av h) := by
  intro a U g mk hq
  obtain ⟨q0, q1, q2, q3⟩ := hq
  exact ⟨q0, q1, z_Kn.same (s := U) (U := U.calling g mk a) rfl q2, q3⟩
/-- what the tables say of a call -/
def z_CB (own : String) (i : Nat) (ν : zM) (n : Nat) : Prop := Cond.methodLink own i ν.1 ∈ z_gw ∧ Cond.code ν.1 ν.2.1 ν.2.2.1 ν.2.2.2 ∈ z_gw ∧ Cond.initialized ν.1.cls ∈ z_gw ∧ (ν.1.cls ≠ "java/lang/invoke/MethodHandle" ∧ ν.1.cls ≠ "java/lang/invoke/VarHandle" ∧ (parseMethodDescriptor ν.1.desc).map (fun d => d.parameters.length) = some n) ∧ ν.2.2.1 ≤ 21
def z_CV (own : String) (i : Nat) (ν : zM) (n c0 : Nat) : Prop := z_CB own i ν n ∧ Cond.instanceMethod ν.1 ∈ z_gw ∧ Cond.selects ν.1.cls ν.1 ν.1 ∈ z_gw ∧ c0 < 9 ∧ (z_cl c0).1 = ν.1.cls
def z_CS (own : String) (i : Nat) (ν : zM) (n : Nat) : Prop := z_CB own i ν n ∧ Cond.static ν.1 ∈ z_gw
def z_CI (own : String) (i : Nat) (ν : zM) (n : Nat) : Prop := z_CB own i ν n ∧ Cond.instanceMethod ν.1 ∈ z_gw ∧ ν.1.name = "<init>" ∧ ν.2.2.2 = none
def z_CN (own : String) (i : Nat) (ν : zM) (n : Nat) (host : String) : Prop := Cond.methodLinkNest own i ν.1 host ∈ z_nw ∧ Cond.code ν.1 ν.2.1 ν.2.2.1 ν.2.2.2 ∈ z_gw ∧ Cond.initialized ν.1.cls ∈ z_gw ∧ (ν.1.cls ≠ "java/lang/invoke/MethodHandle" ∧ ν.1.cls ≠ "java/lang/invoke/VarHandle" ∧ (parseMethodDescriptor ν.1.desc).map (fun d => d.parameters.length) = some n) ∧ ν.2.2.1 ≤ 21 ∧ Cond.static ν.1 ∈ z_gw
theorem z_room {lv lv' mc ms mc' ms' : Nat} (hlv : lv' + 1 ≤ lv) {n : Nat} (hn : n ≤ 21) : (z_rm lv' mc' ms').frames + 1 ≤ (z_rm lv mc ms).frames ∧ 8 + (n + 11) + (z_rm lv' mc' ms').locals ≤ (z_rm lv mc ms).locals := by
  refine ⟨hlv, ?_⟩
  show 8 + (n + 11) + 40 * lv' ≤ 40 * lv
  omega
theorem z_rest {m : MethodId} {pc : Nat} {A : Array Slot} {st : List Value} (b : Nat) {r : List zV} (hr : r.length ≤ 4) : 2 * (F0 m pc A st).monitorRoom + ((r.map (z_mv b)).map fun v => v.category).sum ≤ 8 := by
  have := z_catsum b r
  show 2 * 0 + _ ≤ 8
  omega
theorem z_lastmap {b : Nat} (r : Option zV) (rest : List zV) : (r.map (z_mv b)).toList ++ rest.map (z_mv b) = (r.toList ++ rest).map (z_mv b) := by cases r <;> rfl
section ZC
variable {l : Launch} {G : zG} {μ ν : zM} {lv mc ms lv' mc' ms' : Nat} {Q Q' : Option zV → zH → Prop} {cells slots : Nat} {h : zH} {pc i n : Nat} {ls st : List zV} {av rest : List zV}
theorem x_callV {c0 a : Nat} (hd : decode μ.2.1 pc = .ok (.invokevirtual i, 3)) (cv : z_CV μ.1.cls i ν n c0) (hsp : z_Sp l G ν lv' mc' ms' (vR a :: av) h Q') (hka : (gK h a).1 = c0) (hlv0 : lv' + 1 ≤ lv) (hav : av.length = n) (k1 : cells + mc' ≤ mc) (k2 : slots + ms' ≤ ms) (hst : st = av.reverse ++ vR a :: rest) (hr : rest.length ≤ 4)
    (kk : ∀ r h', Q' r h' → z_X l G μ lv mc ms Q (cells + mc') (slots + ms') h' (pc + 3) ls (r.toList ++ rest)) : z_X l G μ lv mc ms Q cells slots h pc ls st := by
  subst hst
  intro p e s m args below meth c H locs A C hR hS hL hn hc1 hc2 hlv
  have hts := C.2.2.2.2.2.2.2.1
  have hkn := C.2.2.2.2.2.2.2.2.1
  obtain ⟨⟨w1, w2, w3, w4, w5⟩, w6, w7, w8, w9⟩ := cv
  have hlt := z_lt hR hka (by omega)
  have hP := z_at (H := H) (z_cE_o (b := G.1) (ac := G.2.2) hka w8) hlt
  refine z_cont (va_runV (As := av.map (z_mv G.1)) (rest := rest.map (z_mv G.1)) (b := G.1 + a) (C := ν.1.cls) ⟨C.1, C.2.1, C.2.2.1, C.2.2.2.2.2.2.1, hts⟩ hsp ⟨callB_of n hts (z_goodc hts w2) rfl rfl rfl (hts _ w3) (hts _ w1) w4 (z_room hlv0 w5), hts _ w6, hts _ w7⟩ ⟨z_blind, ?_, fun U hU hW => ⟨rfl, by rw [hU]; exact hR, hkn.warm hW, by rw [hU, hR.2.1]; omega⟩⟩ rfl (by rw [List.length_map]; exact hav) (hL.1.trans hn) (by show List.map _ _ = _; rw [List.map_append, List.map_reverse]; rfl) (z_rest G.1 hr) hd ⟨k1, k2⟩) hS fun r h' H1 locs1 hq hR1 hS1 => ?_
  · have := va_recv hkn.1 hR.1 (z_clok c0 w8).1 hP
    rw [← w9]
    exact this
  · rw [z_lastmap]
    exact kk r h' hq p e s m args below meth c H1 locs1 A C hR1 hS1 hL hn k1 k2 hlv
theorem x_callS (hd : decode μ.2.1 pc = .ok (.invokestatic i, 3)) (cv : z_CS μ.1.cls i ν n) (hsp : z_Sp l G ν lv' mc' ms' av h Q') (hlv0 : lv' + 1 ≤ lv) (hav : av.length = n) (k1 : cells + mc' ≤ mc) (k2 : slots + ms' ≤ ms) (hst : st = av.reverse ++ rest) (hr : rest.length ≤ 4)
    (kk : ∀ r h', Q' r h' → z_X l G μ lv mc ms Q (cells + mc') (slots + ms') h' (pc + 3) ls (r.toList ++ rest)) : z_X l G μ lv mc ms Q cells slots h pc ls st := by
  subst hst
  intro p e s m args below meth c H locs A C hR hS hL hn hc1 hc2 hlv
  have hts := C.2.2.2.2.2.2.2.1
  have hkn := C.2.2.2.2.2.2.2.2.1
  obtain ⟨⟨w1, w2, w3, w4, w5⟩, w6⟩ := cv
  refine z_cont (va_runS (As := av.map (z_mv G.1)) (rest := rest.map (z_mv G.1)) ⟨C.1, C.2.1, C.2.2.1, C.2.2.2.2.2.2.1, hts⟩ hsp ⟨callB_of n hts (z_goodc hts w2) rfl rfl rfl (hts _ w3) (hts _ w1) w4 (z_room hlv0 w5), hts _ w6⟩ ⟨z_blind, fun U hU hW => ⟨rfl, by rw [hU]; exact hR, hkn.warm hW, by rw [hU, hR.2.1]; omega⟩⟩ rfl (by rw [List.length_map]; exact hav) (hL.1.trans hn) (by show List.map _ _ = _; rw [List.map_append, List.map_reverse]) (z_rest G.1 hr) hd ⟨k1, k2⟩) hS fun r h' H1 locs1 hq hR1 hS1 => ?_
  rw [z_lastmap]
  exact kk r h' hq p e s m args below meth c H1 locs1 A C hR1 hS1 hL hn k1 k2 hlv
theorem x_callN {host : String} (hd : decode μ.2.1 pc = .ok (.invokestatic i, 3)) (cv : z_CN μ.1.cls i ν n host) (hsp : z_Sp l G ν lv' mc' ms' av h Q') (hlv0 : lv' + 1 ≤ lv) (hav : av.length = n) (k1 : cells + mc' ≤ mc) (k2 : slots + ms' ≤ ms) (hst : st = av.reverse ++ rest) (hr : rest.length ≤ 4)
    (kk : ∀ r h', Q' r h' → z_X l G μ lv mc ms Q (cells + mc') (slots + ms') h' (pc + 3) ls (r.toList ++ rest)) : z_X l G μ lv mc ms Q cells slots h pc ls st := by
  subst hst
  intro p e s m args below meth c H locs A C hR hS hL hn hc1 hc2 hlv
  have hts := C.2.2.2.2.2.2.2.1
  have hkn := C.2.2.2.2.2.2.2.2.1
  obtain ⟨w1, w2, w3, w4, w5, w6⟩ := cv
  refine z_cont (va_runSN (As := av.map (z_mv G.1)) (rest := rest.map (z_mv G.1)) ⟨C.1, C.2.1, C.2.2.1, C.2.2.2.2.2.2.1, hts⟩ hsp ⟨va_cnB n hts (z_goodc hts w2) rfl rfl rfl (hkn.2.1 _ w1) (hts _ w3) w4 (z_room hlv0 w5), hts _ w6, trivial⟩ ⟨z_blind, fun U hU hW => ⟨rfl, by rw [hU]; exact hR, hkn.warm hW, by rw [hU, hR.2.1]; omega⟩⟩ rfl (by rw [List.length_map]; exact hav) (hL.1.trans hn) (by show List.map _ _ = _; rw [List.map_append, List.map_reverse]) (z_rest G.1 hr) hd ⟨k1, k2⟩) hS fun r h' H1 locs1 hq hR1 hS1 => ?_
  rw [z_lastmap]
  exact kk r h' hq p e s m args below meth c H1 locs1 A C hR1 hS1 hL hn k1 k2 hlv
theorem x_callI {a : Nat} (hd : decode μ.2.1 pc = .ok (.invokespecial i, 3)) (cv : z_CI μ.1.cls i ν n) (hsp : z_Sp l G ν lv' mc' ms' (vR a :: av) h Q') (hlv0 : lv' + 1 ≤ lv) (hav : av.length = n) (k1 : cells + mc' ≤ mc) (k2 : slots + ms' ≤ ms) (hst : st = av.reverse ++ vR a :: rest) (hr : rest.length ≤ 4)
    (kk : ∀ r h', Q' r h' → z_X l G μ lv mc ms Q (cells + mc') (slots + ms') h' (pc + 3) ls (r.toList ++ rest)) : z_X l G μ lv mc ms Q cells slots h pc ls st := by
  subst hst
  intro p e s m args below meth c H locs A C hR hS hL hn hc1 hc2 hlv
  have hts := C.2.2.2.2.2.2.2.1
  have hkn := C.2.2.2.2.2.2.2.2.1
  obtain ⟨⟨w1, w2, w3, w4, w5⟩, w6, w7, w8⟩ := cv
  refine z_cont (va_runI (As := av.map (z_mv G.1)) (rest := rest.map (z_mv G.1)) (b := G.1 + a) (ws := z_wo ν) ⟨C.1, C.2.1, C.2.2.1, C.2.2.2.2.2.2.1, hts⟩ hsp ⟨callB_of n hts (z_goodc hts w2) (by rw [← w8]; rfl) rfl rfl (hts _ w3) (hts _ w1) w4 (z_room hlv0 w5), w7, hts _ w6⟩ ⟨z_blind, fun U hU hW => ⟨rfl, by rw [hU]; exact hR, hkn.warm hW, by rw [hU, hR.2.1]; omega⟩⟩ rfl (by rw [List.length_map]; exact hav) (hL.1.trans hn) (by show List.map _ _ = _; rw [List.map_append, List.map_reverse]; rfl) (z_rest G.1 hr) hd ⟨k1, k2⟩) hS fun r h' H1 locs1 hq hR1 hS1 => ?_
  rw [z_lastmap]
  exact kk r h' hq p e s m args below meth c H1 locs1 A C hR1 hS1 hL hn k1 k2 hlv
end ZC
/-! a method's entry -/
def z_fl : List zV → List zV
  | [] => []
  | .inr (.inl z) :: r => vL z :: vJ :: z_fl r
  | v :: r => v :: z_fl r
def z_en (av : List zV) (n : Nat) : List zV := z_fl av ++ List.replicate (n - (z_fl av).length) vJ
theorem z_fl_args {b : Nat} : ∀ (av : List zV) (i k : Nat) (v : zV), (z_fl av)[k]? = some v → v ≠ vJ → (i + k, z_mv b v) ∈ lv_args i (av.map (z_mv b))
  | [], i, k, v, h, hv => by simp [z_fl] at h
  | .inl z :: r, i, k, v, h, hv => by
    cases k with
    | zero => simp [z_fl] at h; subst h; simp [lv_args]
    | succ k =>
      simp only [z_fl, List.getElem?_cons_succ] at h
      have := z_fl_args (b := b) r (i + 1) k v h hv
      simp only [List.map_cons, lv_args, z_mv, Value.category]
      exact List.mem_cons_of_mem _ (by rw [show i + (k + 1) = i + 1 + k by omega]; exact this)
  | .inr (.inl z) :: r, i, k, v, h, hv => by
    match k with
    | 0 => simp [z_fl] at h; subst h; simp [lv_args, vL]
    | 1 => simp [z_fl] at h; exact absurd h.symm hv
    | k + 2 =>
      simp only [z_fl, List.getElem?_cons_succ] at h
      have := z_fl_args (b := b) r (i + 2) k v h hv
      simp only [List.map_cons, lv_args, z_mv, Value.category]
      exact List.mem_cons_of_mem _ (by rw [show i + (k + 2) = i + 2 + k by omega]; exact this)
  | .inr (.inr (.inl o)) :: r, i, k, v, h, hv => by
    cases k with
    | zero => simp [z_fl] at h; subst h; simp [lv_args]
    | succ k =>
      simp only [z_fl, List.getElem?_cons_succ] at h
      have := z_fl_args (b := b) r (i + 1) k v h hv
      have hc : ¬ (z_mv b (.inr (.inr (.inl o)))).category = 2 := by cases o <;> simp [z_mv, va_rf, Value.category]
      simp only [List.map_cons, lv_args]
      rw [if_neg hc]
      exact List.mem_cons_of_mem _ (by rw [show i + (k + 1) = i + 1 + k by omega]; exact this)
  | .inr (.inr (.inr u)) :: r, i, k, v, h, hv => by
    cases k with
    | zero => simp [z_fl] at h; exact absurd h.symm hv
    | succ k =>
      simp only [z_fl, List.getElem?_cons_succ] at h
      have := z_fl_args (b := b) r (i + 1) k v h hv
      simp only [List.map_cons, lv_args, z_mv, Value.category]
      exact List.mem_cons_of_mem _ (by rw [show i + (k + 1) = i + 1 + k by omega]; exact this)
theorem z_fl_len {b : Nat} : ∀ (av : List zV), (lg_sl (av.map (z_mv b))).length = (z_fl av).length
  | [] => rfl
  | .inl z :: r => by have := z_fl_len (b := b) r; simp [lg_sl, z_fl, z_mv, Value.category] at this ⊢; omega
  | .inr (.inl z) :: r => by have := z_fl_len (b := b) r; simp [lg_sl, z_fl, z_mv, Value.category] at this ⊢; omega
  | .inr (.inr (.inl o)) :: r => by
    have := z_fl_len (b := b) r
    cases o <;> simp [lg_sl, z_fl, z_mv, va_rf, Value.category] at this ⊢ <;> omega
  | .inr (.inr (.inr u)) :: r => by have := z_fl_len (b := b) r; simp [lg_sl, z_fl, z_mv, Value.category] at this ⊢; omega
theorem x_enter {l : Launch} {G : zG} {μ : zM} {lv mc ms : Nat} {Q : Option zV → zH → Prop} {h : zH} {av : List zV} (ls : List zV) (hy : plainName μ.1.cls = true) (hlv : 1 ≤ lv) (hls : z_en av μ.2.2.1 = ls) (hlen : (z_fl av).length ≤ μ.2.2.1) (kk : z_X l G μ lv mc ms Q 0 0 h 0 ls []) : z_Sp l G μ lv mc ms av h Q := by
  refine Met.ofW (cc := μ.2.1) (maxL := μ.2.2.1) (ret := μ.2.2.2) hy rfl ?_
  intro p e s m args below meth c s₁ B hml hv
  obtain ⟨rfl, hR, hKn, hb⟩ := hv
  have hts := atoms_spec (ws := z_wo μ) B.pre
  have hnm := name_of_methodNamed B.named B.method
  have hl := lv_entry (av.map (z_mv G.1)) (n := μ.2.2.1) (by rw [z_fl_len]; exact hlen)
  rw [lg_entry_eq]
  refine kk p e s m _ below meth c s.heap [] _ ⟨B.exec, B.bytes, hml, B.returns, B.notSynchronized, hnm.1, findClass_of_methodNamed B.named, fun w hw => hts w (List.mem_cons_of_mem _ hw), hKn, hb⟩ hR va_S.rf ?_ ?_ (Nat.zero_le _) (Nat.zero_le _) hlv
  · subst hls
    have hlen2 : (z_en av μ.2.2.1).length = μ.2.2.1 := by simp [z_en]; omega
    refine ⟨by rw [hlen2]; exact hl.1, hl.2.1, fun k v hk hv => ?_⟩
    by_cases hkl : k < (z_fl av).length
    · have hk2 : (z_fl av)[k]? = some v := by rw [← hk]; simp [z_en, List.getElem?_append_left hkl]
      have := hl.2.2 _ (z_fl_args (b := G.1) av 0 k v hk2 hv)
      simpa using this
    · rw [z_en, List.getElem?_append_right (by omega)] at hk
      have := List.mem_of_getElem? hk
      exact absurd (List.eq_of_mem_replicate this) hv
  · subst hls
    simp [z_en]
    omega
/-! runs of instructions -/
def z_op (t : List (Nat × zO)) (pc : Nat) : zO := (t.lookup pc).getD o_stop
def z_TS (μ : zM) (t : List (Nat × zO)) : Prop := ∀ q ∈ t, z_S μ q.1 q.2
def z_wp (t : List (Nat × zO)) (S : List Nat) (X : zK) (Q : Option zV → zH → Prop) : Nat → zK
  | 0 => X
  | f + 1 => fun h pc ls st => if pc ∈ S then X h pc ls st else z_op t pc X (z_wp t S X Q f) Q h pc ls st
theorem z_wp_s (t : List (Nat × zO)) (S : List Nat) (X : zK) (Q : Option zV → zH → Prop) (f : Nat) (h : zH) (pc : Nat) (ls st : List zV) : z_wp t S X Q (f + 1) h pc ls st = if pc ∈ S then X h pc ls st else z_op t pc X (z_wp t S X Q f) Q h pc ls st := rfl
theorem z_wp_0 (t : List (Nat × zO)) (S : List Nat) (X : zK) (Q : Option zV → zH → Prop) (h : zH) (pc : Nat) (ls st : List zV) : z_wp t S X Q 0 h pc ls st = X h pc ls st := rfl
theorem z_mem_lookup : ∀ {t : List (Nat × zO)} {pc : Nat} {o : zO}, t.lookup pc = some o → (pc, o) ∈ t
  | [], _, _, h => by simp [List.lookup] at h
  | (k, v) :: r, pc, o, h => by
    by_cases hk : pc = k
    · subst hk
      simp [List.lookup] at h
      subst h
      exact List.mem_cons_self
    · have hb : (pc == k) = false := by simpa using hk
      simp only [List.lookup, hb] at h
      exact List.mem_cons_of_mem _ (z_mem_lookup h)
theorem z_run {l : Launch} {G : zG} {μ : zM} {lv mc ms : Nat} {Q : Option zV → zH → Prop} {cells slots : Nat} {t : List (Nat × zO)} (hT : z_TS μ t) (S : List Nat) : ∀ (f : Nat) {h : zH} {pc : Nat} {ls st : List zV}, z_wp t S (z_X l G μ lv mc ms Q cells slots) Q f h pc ls st → z_X l G μ lv mc ms Q cells slots h pc ls st
  | 0, h, pc, ls, st, hw => hw
  | f + 1, h, pc, ls, st, hw => by
    rw [z_wp_s] at hw
    by_cases hp : pc ∈ S
    · rw [if_pos hp] at hw
      exact hw
    · rw [if_neg hp] at hw
      unfold z_op at hw
      cases hl : t.lookup pc with
      | none => rw [hl] at hw; exact hw
      | some o =>
        rw [hl] at hw
        exact hT (pc, o) (z_mem_lookup hl) l G lv mc ms Q cells slots _ (fun h pc ls st hk => z_run hT S f hk) h ls st hw

